theorem dX4_contrary_47 : decode cX4_contrary 47 = .ok (.goto 4, 3) := by decide +kernel
theorem dX4_contrary_50 : decode cX4_contrary 50 = .ok (.iconst 0, 1) := by decide +kernel
theorem dX4_contrary_51 : decode cX4_contrary 51 = .ok (.putfield 73, 3) := by decide +kernel
theorem dX4_contrary_54 : decode cX4_contrary 54 = .ok (.aload_n 0, 1) := by decide +kernel
theorem dX4_contrary_55 : decode cX4_contrary 55 = .ok (.getfield 73, 3) := by decide +kernel
theorem dX4_contrary_58 : decode cX4_contrary 58 = .ok (.ifCond .le 5, 3) := by decide +kernel
theorem dX4_contrary_61 : decode cX4_contrary 61 = .ok (.iconst 0, 1) := by decide +kernel
theorem dX4_contrary_62 : decode cX4_contrary 62 = .ok (.ireturn, 1) := by decide +kernel
theorem dX4_contrary_63 : decode cX4_contrary 63 = .ok (.aload_n 0, 1) := by decide +kernel
theorem dX4_contrary_64 : decode cX4_contrary 64 = .ok (.getfield 54, 3) := by decide +kernel
theorem dX4_contrary_67 : decode cX4_contrary 67 = .ok (.iload_n 1, 1) := by decide +kernel
theorem dX4_contrary_68 : decode cX4_contrary 68 = .ok (.iload_n 2, 1) := by decide +kernel
theorem dX4_contrary_69 : decode cX4_contrary 69 = .ok (.invokestatic 113, 3) := by decide +kernel
theorem dX4_contrary_72 : decode cX4_contrary 72 = .ok (.baload, 1) := by decide +kernel
theorem dX4_contrary_73 : decode cX4_contrary 73 = .ok (.istore 5, 2) := by decide +kernel
theorem dX4_contrary_75 : decode cX4_contrary 75 = .ok (.aload_n 0, 1) := by decide +kernel
theorem dX4_contrary_76 : decode cX4_contrary 76 = .ok (.getfield 54, 3) := by decide +kernel
theorem dX4_contrary_79 : decode cX4_contrary 79 = .ok (.iload_n 1, 1) := by decide +kernel
theorem dX4_contrary_80 : decode cX4_contrary 80 = .ok (.iload_n 2, 1) := by decide +kernel
theorem dX4_contrary_81 : decode cX4_contrary 81 = .ok (.invokestatic 113, 3) := by decide +kernel
theorem dX4_contrary_84 : decode cX4_contrary 84 = .ok (.iload_n 3, 1) := by decide +kernel
theorem dX4_contrary_85 : decode cX4_contrary 85 = .ok (.bastore, 1) := by decide +kernel
theorem dX4_contrary_86 : decode cX4_contrary 86 = .ok (.iload 5, 2) := by decide +kernel
theorem dX4_contrary_88 : decode cX4_contrary 88 = .ok (.iload_n 3, 1) := by decide +kernel
theorem dX4_contrary_89 : decode cX4_contrary 89 = .ok (.if_icmp .eq 7, 3) := by decide +kernel
theorem dX4_contrary_92 : decode cX4_contrary 92 = .ok (.iconst 1, 1) := by decide +kernel
theorem dX4_contrary_93 : decode cX4_contrary 93 = .ok (.goto 4, 3) := by decide +kernel
theorem dX4_contrary_96 : decode cX4_contrary 96 = .ok (.iconst 0, 1) := by decide +kernel
theorem dX4_contrary_97 : decode cX4_contrary 97 = .ok (.ireturn, 1) := by decide +kernel
theorem dX4_expires_0 : decode cX4_expires 0 = .ok (.aload_n 0, 1) := by decide +kernel
theorem dX4_expires_1 : decode cX4_expires 1 = .ok (.iload_n 1, 1) := by decide +kernel
theorem dX4_expires_2 : decode cX4_expires 2 = .ok (.aload_n 0, 1) := by decide +kernel
theorem dX4_expires_3 : decode cX4_expires 3 = .ok (.getfield 7, 3) := by decide +kernel
theorem dX4_expires_6 : decode cX4_expires 6 = .ok (.i2l, 1) := by decide +kernel
theorem dX4_expires_7 : decode cX4_expires 7 = .ok (.invokevirtual 96, 3) := by decide +kernel
theorem dX4_expires_10 : decode cX4_expires 10 = .ok (.lstore_n 2, 1) := by decide +kernel
theorem dX4_expires_11 : decode cX4_expires 11 = .ok (.iconst 0, 1) := by decide +kernel
theorem dX4_expires_12 : decode cX4_expires 12 = .ok (.istore 4, 2) := by decide +kernel
theorem dX4_expires_14 : decode cX4_expires 14 = .ok (.iload 4, 2) := by decide +kernel
theorem dX4_expires_16 : decode cX4_expires 16 = .ok (.bipush 7, 2) := by decide +kernel
theorem dX4_expires_18 : decode cX4_expires 18 = .ok (.if_icmp .ge 72, 3) := by decide +kernel
theorem dX4_expires_21 : decode cX4_expires 21 = .ok (.lload_n 2, 1) := by decide +kernel
theorem dX4_expires_22 : decode cX4_expires 22 = .ok (.lconst 0, 1) := by decide +kernel
theorem dX4_expires_23 : decode cX4_expires 23 = .ok (.lcmp, 1) := by decide +kernel
theorem dX4_expires_24 : decode cX4_expires 24 = .ok (.ifCond .le 33, 3) := by decide +kernel
theorem dX4_expires_27 : decode cX4_expires 27 = .ok (.aload_n 0, 1) := by decide +kernel
theorem dX4_expires_28 : decode cX4_expires 28 = .ok (.getfield 54, 3) := by decide +kernel
theorem dX4_expires_31 : decode cX4_expires 31 = .ok (.bipush 7, 2) := by decide +kernel
theorem dX4_expires_33 : decode cX4_expires 33 = .ok (.iload_n 1, 1) := by decide +kernel
theorem dX4_expires_34 : decode cX4_expires 34 = .ok (.imul, 1) := by decide +kernel
theorem dX4_expires_35 : decode cX4_expires 35 = .ok (.iload 4, 2) := by decide +kernel
theorem dX4_expires_37 : decode cX4_expires 37 = .ok (.iadd, 1) := by decide +kernel
theorem dX4_expires_38 : decode cX4_expires 38 = .ok (.baload, 1) := by decide +kernel
theorem dX4_expires_39 : decode cX4_expires 39 = .ok (.ifCond .ne 18, 3) := by decide +kernel
theorem dX4_expires_42 : decode cX4_expires 42 = .ok (.aload_n 0, 1) := by decide +kernel
theorem dX4_expires_43 : decode cX4_expires 43 = .ok (.getfield 51, 3) := by decide +kernel
theorem dX4_expires_46 : decode cX4_expires 46 = .ok (.bipush 7, 2) := by decide +kernel
theorem dX4_expires_48 : decode cX4_expires 48 = .ok (.iload_n 1, 1) := by decide +kernel
theorem dX4_expires_49 : decode cX4_expires 49 = .ok (.imul, 1) := by decide +kernel
theorem dX4_expires_50 : decode cX4_expires 50 = .ok (.iload 4, 2) := by decide +kernel
theorem dX4_expires_52 : decode cX4_expires 52 = .ok (.iadd, 1) := by decide +kernel
theorem dX4_expires_53 : decode cX4_expires 53 = .ok (.iaload, 1) := by decide +kernel
theorem dX4_expires_54 : decode cX4_expires 54 = .ok (.goto 4, 3) := by decide +kernel
theorem dX4_expires_57 : decode cX4_expires 57 = .ok (.iconst 0, 1) := by decide +kernel
theorem dX4_expires_58 : decode cX4_expires 58 = .ok (.istore 5, 2) := by decide +kernel
theorem dX4_expires_60 : decode cX4_expires 60 = .ok (.iconst 0, 1) := by decide +kernel
theorem dX4_expires_61 : decode cX4_expires 61 = .ok (.istore 6, 2) := by decide +kernel
theorem dX4_expires_63 : decode cX4_expires 63 = .ok (.iload 6, 2) := by decide +kernel
theorem dX4_expires_65 : decode cX4_expires 65 = .ok (.iload 5, 2) := by decide +kernel
theorem dX4_expires_67 : decode cX4_expires 67 = .ok (.if_icmp .ge 17, 3) := by decide +kernel
theorem dX4_expires_70 : decode cX4_expires 70 = .ok (.aload_n 0, 1) := by decide +kernel
theorem dX4_expires_71 : decode cX4_expires 71 = .ok (.iload 4, 2) := by decide +kernel
theorem dX4_expires_73 : decode cX4_expires 73 = .ok (.iload_n 1, 1) := by decide +kernel
theorem dX4_expires_74 : decode cX4_expires 74 = .ok (.lload_n 2, 1) := by decide +kernel
theorem dX4_expires_75 : decode cX4_expires 75 = .ok (.invokevirtual 194, 3) := by decide +kernel
theorem dX4_expires_78 : decode cX4_expires 78 = .ok (.iinc 6 1, 3) := by decide +kernel
theorem dX4_expires_81 : decode cX4_expires 81 = .ok (.goto (-18), 3) := by decide +kernel
theorem dX4_expires_84 : decode cX4_expires 84 = .ok (.iinc 4 1, 3) := by decide +kernel
theorem dX4_expires_87 : decode cX4_expires 87 = .ok (.goto (-73), 3) := by decide +kernel
theorem dX4_expires_90 : decode cX4_expires 90 = .ok (.iconst 0, 1) := by decide +kernel
theorem dX4_expires_91 : decode cX4_expires 91 = .ok (.istore 4, 2) := by decide +kernel
theorem dX4_expires_93 : decode cX4_expires 93 = .ok (.iload 4, 2) := by decide +kernel
theorem dX4_expires_95 : decode cX4_expires 95 = .ok (.bipush 7, 2) := by decide +kernel
theorem dX4_expires_97 : decode cX4_expires 97 = .ok (.if_icmp .ge 22, 3) := by decide +kernel
theorem dX4_expires_100 : decode cX4_expires 100 = .ok (.aload_n 0, 1) := by decide +kernel
theorem dX4_expires_101 : decode cX4_expires 101 = .ok (.getfield 51, 3) := by decide +kernel
theorem dX4_expires_104 : decode cX4_expires 104 = .ok (.bipush 7, 2) := by decide +kernel
theorem dX4_expires_106 : decode cX4_expires 106 = .ok (.iload_n 1, 1) := by decide +kernel
theorem dX4_expires_107 : decode cX4_expires 107 = .ok (.imul, 1) := by decide +kernel
theorem dX4_expires_108 : decode cX4_expires 108 = .ok (.iload 4, 2) := by decide +kernel
theorem dX4_expires_110 : decode cX4_expires 110 = .ok (.iadd, 1) := by decide +kernel
theorem dX4_expires_111 : decode cX4_expires 111 = .ok (.iconst 0, 1) := by decide +kernel
theorem dX4_expires_112 : decode cX4_expires 112 = .ok (.iastore, 1) := by decide +kernel
theorem dX4_expires_113 : decode cX4_expires 113 = .ok (.iinc 4 1, 3) := by decide +kernel
theorem dX4_expires_116 : decode cX4_expires 116 = .ok (.goto (-23), 3) := by decide +kernel
theorem dX4_expires_119 : decode cX4_expires 119 = .ok (.aload_n 0, 1) := by decide +kernel
theorem dX4_expires_120 : decode cX4_expires 120 = .ok (.getfield 36, 3) := by decide +kernel
theorem dX4_expires_123 : decode cX4_expires 123 = .ok (.iload_n 1, 1) := by decide +kernel
theorem dX4_expires_124 : decode cX4_expires 124 = .ok (.iconst 1, 1) := by decide +kernel
theorem dX4_expires_125 : decode cX4_expires 125 = .ok (.bastore, 1) := by decide +kernel
theorem dX4_expires_126 : decode cX4_expires 126 = .ok (.aload_n 0, 1) := by decide +kernel
theorem dX4_expires_127 : decode cX4_expires 127 = .ok (.getfield 45, 3) := by decide +kernel
theorem dX4_expires_130 : decode cX4_expires 130 = .ok (.iload_n 1, 1) := by decide +kernel
theorem dX4_expires_131 : decode cX4_expires 131 = .ok (.iconst 0, 1) := by decide +kernel
theorem dX4_expires_132 : decode cX4_expires 132 = .ok (.iastore, 1) := by decide +kernel
theorem dX4_expires_133 : decode cX4_expires 133 = .ok (.aload_n 0, 1) := by decide +kernel
theorem dX4_expires_134 : decode cX4_expires 134 = .ok (.getfield 48, 3) := by decide +kernel
theorem dX4_expires_137 : decode cX4_expires 137 = .ok (.iload_n 1, 1) := by decide +kernel
theorem dX4_expires_138 : decode cX4_expires 138 = .ok (.iconst 0, 1) := by decide +kernel
theorem dX4_expires_139 : decode cX4_expires 139 = .ok (.iastore, 1) := by decide +kernel
theorem dX4_expires_140 : decode cX4_expires 140 = .ok (.return_, 1) := by decide +kernel
theorem dX4_close_0 : decode cX4_close 0 = .ok (.aload_n 0, 1) := by decide +kernel
theorem dX4_close_1 : decode cX4_close 1 = .ok (.aload_n 0, 1) := by decide +kernel
theorem dX4_close_2 : decode cX4_close 2 = .ok (.getfield 89, 3) := by decide +kernel
theorem dX4_close_5 : decode cX4_close 5 = .ok (.sipush 200, 3) := by decide +kernel
theorem dX4_close_8 : decode cX4_close 8 = .ok (.if_icmp .ne 7, 3) := by decide +kernel
theorem dX4_close_11 : decode cX4_close 11 = .ok (.iconst 1, 1) := by decide +kernel
theorem dX4_close_12 : decode cX4_close 12 = .ok (.goto 4, 3) := by decide +kernel
theorem dX4_close_15 : decode cX4_close 15 = .ok (.iconst 0, 1) := by decide +kernel
theorem dX4_close_16 : decode cX4_close 16 = .ok (.putfield 73, 3) := by decide +kernel
theorem dX4_close_19 : decode cX4_close 19 = .ok (.aload_n 0, 1) := by decide +kernel
theorem dX4_close_20 : decode cX4_close 20 = .ok (.getfield 73, 3) := by decide +kernel
theorem dX4_close_23 : decode cX4_close 23 = .ok (.ifCond .le 5, 3) := by decide +kernel
theorem dX4_close_26 : decode cX4_close 26 = .ok (.iconst 0, 1) := by decide +kernel
theorem dX4_close_27 : decode cX4_close 27 = .ok (.ireturn, 1) := by decide +kernel
theorem dX4_close_28 : decode cX4_close 28 = .ok (.aload_n 0, 1) := by decide +kernel
theorem dX4_close_29 : decode cX4_close 29 = .ok (.aload_n 0, 1) := by decide +kernel
theorem dX4_close_30 : decode cX4_close 30 = .ok (.getfield 7, 3) := by decide +kernel
theorem dX4_close_33 : decode cX4_close 33 = .ok (.invokevirtual 121, 3) := by decide +kernel
theorem dX4_close_36 : decode cX4_close 36 = .ok (.lstore_n 1, 1) := by decide +kernel
theorem dX4_close_37 : decode cX4_close 37 = .ok (.iconst 0, 1) := by decide +kernel
theorem dX4_close_38 : decode cX4_close 38 = .ok (.istore_n 3, 1) := by decide +kernel
theorem dX4_close_39 : decode cX4_close 39 = .ok (.iload_n 3, 1) := by decide +kernel
theorem dX4_close_40 : decode cX4_close 40 = .ok (.aload_n 0, 1) := by decide +kernel
theorem dX4_close_41 : decode cX4_close 41 = .ok (.getfield 76, 3) := by decide +kernel
theorem dX4_close_44 : decode cX4_close 44 = .ok (.if_icmp .ge 36, 3) := by decide +kernel
theorem dX4_close_47 : decode cX4_close 47 = .ok (.aload_n 0, 1) := by decide +kernel
theorem dX4_close_48 : decode cX4_close 48 = .ok (.getfield 36, 3) := by decide +kernel
theorem dX4_close_51 : decode cX4_close 51 = .ok (.iload_n 3, 1) := by decide +kernel
theorem dX4_close_52 : decode cX4_close 52 = .ok (.baload, 1) := by decide +kernel
theorem dX4_close_53 : decode cX4_close 53 = .ok (.ifCond .ne 21, 3) := by decide +kernel
theorem dX4_close_56 : decode cX4_close 56 = .ok (.aload_n 0, 1) := by decide +kernel
theorem dX4_close_57 : decode cX4_close 57 = .ok (.getfield 29, 3) := by decide +kernel
theorem dX4_close_60 : decode cX4_close 60 = .ok (.iload_n 3, 1) := by decide +kernel
theorem dX4_close_61 : decode cX4_close 61 = .ok (.iaload, 1) := by decide +kernel
theorem dX4_close_62 : decode cX4_close 62 = .ok (.aload_n 0, 1) := by decide +kernel
theorem dX4_close_63 : decode cX4_close 63 = .ok (.getfield 89, 3) := by decide +kernel
theorem dX4_close_66 : decode cX4_close 66 = .ok (.if_icmp .ne 8, 3) := by decide +kernel
theorem dX4_close_69 : decode cX4_close 69 = .ok (.aload_n 0, 1) := by decide +kernel
theorem dX4_close_70 : decode cX4_close 70 = .ok (.iload_n 3, 1) := by decide +kernel
theorem dX4_close_71 : decode cX4_close 71 = .ok (.invokevirtual 198, 3) := by decide +kernel
theorem dX4_close_74 : decode cX4_close 74 = .ok (.iinc 3 1, 3) := by decide +kernel
theorem dX4_close_77 : decode cX4_close 77 = .ok (.goto (-38), 3) := by decide +kernel
theorem dX4_close_80 : decode cX4_close 80 = .ok (.aload_n 0, 1) := by decide +kernel
theorem dX4_close_81 : decode cX4_close 81 = .ok (.aload_n 0, 1) := by decide +kernel
theorem dX4_close_82 : decode cX4_close 82 = .ok (.getfield 7, 3) := by decide +kernel
theorem dX4_close_85 : decode cX4_close 85 = .ok (.invokevirtual 121, 3) := by decide +kernel
theorem dX4_close_88 : decode cX4_close 88 = .ok (.lstore_n 3, 1) := by decide +kernel
theorem dX4_close_89 : decode cX4_close 89 = .ok (.aload_n 0, 1) := by decide +kernel
theorem dX4_close_90 : decode cX4_close 90 = .ok (.dup, 1) := by decide +kernel
theorem dX4_close_91 : decode cX4_close 91 = .ok (.getfield 89, 3) := by decide +kernel
theorem dX4_close_94 : decode cX4_close 94 = .ok (.iconst 1, 1) := by decide +kernel
theorem dX4_close_95 : decode cX4_close 95 = .ok (.iadd, 1) := by decide +kernel
theorem dX4_close_96 : decode cX4_close 96 = .ok (.putfield 89, 3) := by decide +kernel
theorem dX4_close_99 : decode cX4_close 99 = .ok (.aload_n 0, 1) := by decide +kernel
theorem dX4_close_100 : decode cX4_close 100 = .ok (.getfield 67, 3) := by decide +kernel
theorem dX4_close_103 : decode cX4_close 103 = .ok (.iconst 4, 1) := by decide +kernel
theorem dX4_close_104 : decode cX4_close 104 = .ok (.dup2, 1) := by decide +kernel
theorem dX4_close_105 : decode cX4_close 105 = .ok (.laload, 1) := by decide +kernel
theorem dX4_close_106 : decode cX4_close 106 = .ok (.lload_n 3, 1) := by decide +kernel
theorem dX4_close_107 : decode cX4_close 107 = .ok (.lload_n 1, 1) := by decide +kernel
theorem dX4_close_108 : decode cX4_close 108 = .ok (.lsub, 1) := by decide +kernel
theorem dX4_close_109 : decode cX4_close 109 = .ok (.ladd, 1) := by decide +kernel
theorem dX4_close_110 : decode cX4_close 110 = .ok (.lastore, 1) := by decide +kernel
theorem dX4_close_111 : decode cX4_close 111 = .ok (.aload_n 0, 1) := by decide +kernel
theorem dX4_close_112 : decode cX4_close 112 = .ok (.getfield 67, 3) := by decide +kernel
theorem dX4_close_115 : decode cX4_close 115 = .ok (.iconst 2, 1) := by decide +kernel
theorem dX4_close_116 : decode cX4_close 116 = .ok (.dup2, 1) := by decide +kernel
theorem dX4_close_117 : decode cX4_close 117 = .ok (.laload, 1) := by decide +kernel
theorem dX4_close_118 : decode cX4_close 118 = .ok (.aload_n 0, 1) := by decide +kernel
theorem dX4_close_119 : decode cX4_close 119 = .ok (.aload_n 0, 1) := by decide +kernel
theorem dX4_close_120 : decode cX4_close 120 = .ok (.getfield 7, 3) := by decide +kernel
theorem dX4_close_123 : decode cX4_close 123 = .ok (.invokevirtual 121, 3) := by decide +kernel
theorem dX4_close_126 : decode cX4_close 126 = .ok (.lload_n 3, 1) := by decide +kernel
theorem dX4_close_127 : decode cX4_close 127 = .ok (.lsub, 1) := by decide +kernel
theorem dX4_close_128 : decode cX4_close 128 = .ok (.ladd, 1) := by decide +kernel
theorem dX4_close_129 : decode cX4_close 129 = .ok (.lastore, 1) := by decide +kernel
theorem dX4_close_130 : decode cX4_close 130 = .ok (.aload_n 0, 1) := by decide +kernel
theorem dX4_close_131 : decode cX4_close 131 = .ok (.getfield 89, 3) := by decide +kernel
theorem dX4_close_134 : decode cX4_close 134 = .ok (.ireturn, 1) := by decide +kernel
theorem dX4_common_0 : decode cX4_common 0 = .ok (.lload_n 0, 1) := by decide +kernel
theorem dX4_common_1 : decode cX4_common 1 = .ok (.lstore 4, 2) := by decide +kernel
theorem dX4_common_3 : decode cX4_common 3 = .ok (.lload_n 2, 1) := by decide +kernel
theorem dX4_common_4 : decode cX4_common 4 = .ok (.lstore 6, 2) := by decide +kernel
theorem dX4_common_6 : decode cX4_common 6 = .ok (.lload 6, 2) := by decide +kernel
theorem dX4_common_8 : decode cX4_common 8 = .ok (.lconst 0, 1) := by decide +kernel
theorem dX4_common_9 : decode cX4_common 9 = .ok (.lcmp, 1) := by decide +kernel
theorem dX4_common_10 : decode cX4_common 10 = .ok (.ifCond .le 21, 3) := by decide +kernel
theorem dX4_common_13 : decode cX4_common 13 = .ok (.lload 4, 2) := by decide +kernel
theorem dX4_common_15 : decode cX4_common 15 = .ok (.lload 6, 2) := by decide +kernel
theorem dX4_common_17 : decode cX4_common 17 = .ok (.lrem, 1) := by decide +kernel
theorem dX4_common_18 : decode cX4_common 18 = .ok (.lstore 8, 2) := by decide +kernel
theorem dX4_common_20 : decode cX4_common 20 = .ok (.lload 6, 2) := by decide +kernel
theorem dX4_common_22 : decode cX4_common 22 = .ok (.lstore 4, 2) := by decide +kernel
theorem dX4_common_24 : decode cX4_common 24 = .ok (.lload 8, 2) := by decide +kernel
theorem dX4_common_26 : decode cX4_common 26 = .ok (.lstore 6, 2) := by decide +kernel
theorem dX4_common_28 : decode cX4_common 28 = .ok (.goto (-22), 3) := by decide +kernel
theorem dX4_common_31 : decode cX4_common 31 = .ok (.lload 4, 2) := by decide +kernel
theorem dX4_common_33 : decode cX4_common 33 = .ok (.lreturn, 1) := by decide +kernel
theorem dX4_value_0 : decode cX4_value 0 = .ok (.aload_n 0, 1) := by decide +kernel
theorem dX4_value_1 : decode cX4_value 1 = .ok (.aload_n 0, 1) := by decide +kernel
theorem dX4_value_2 : decode cX4_value 2 = .ok (.iload_n 1, 1) := by decide +kernel
theorem dX4_value_3 : decode cX4_value 3 = .ok (.invokevirtual 146, 3) := by decide +kernel
theorem dX4_value_6 : decode cX4_value 6 = .ok (.ifCond .eq 7, 3) := by decide +kernel
theorem dX4_value_9 : decode cX4_value 9 = .ok (.iconst 0, 1) := by decide +kernel
theorem dX4_value_10 : decode cX4_value 10 = .ok (.goto 4, 3) := by decide +kernel
theorem dX4_value_13 : decode cX4_value 13 = .ok (.iconst 1, 1) := by decide +kernel
theorem dX4_value_14 : decode cX4_value 14 = .ok (.putfield 73, 3) := by decide +kernel
theorem dX4_value_17 : decode cX4_value 17 = .ok (.aload_n 0, 1) := by decide +kernel
theorem dX4_value_18 : decode cX4_value 18 = .ok (.getfield 73, 3) := by decide +kernel
theorem dX4_value_21 : decode cX4_value 21 = .ok (.ifCond .le 5, 3) := by decide +kernel
theorem dX4_value_24 : decode cX4_value 24 = .ok (.lconst 0, 1) := by decide +kernel
theorem dX4_value_25 : decode cX4_value 25 = .ok (.lreturn, 1) := by decide +kernel
theorem dX4_value_26 : decode cX4_value 26 = .ok (.aload_n 0, 1) := by decide +kernel
theorem dX4_value_27 : decode cX4_value 27 = .ok (.iload_n 1, 1) := by decide +kernel
theorem dX4_value_28 : decode cX4_value 28 = .ok (.aload_n 0, 1) := by decide +kernel
theorem dX4_value_29 : decode cX4_value 29 = .ok (.getfield 7, 3) := by decide +kernel
theorem dX4_value_32 : decode cX4_value 32 = .ok (.invokevirtual 104, 3) := by decide +kernel
theorem dX4_value_35 : decode cX4_value 35 = .ok (.aload_n 0, 1) := by decide +kernel
theorem dX4_value_36 : decode cX4_value 36 = .ok (.getfield 100, 3) := by decide +kernel
theorem dX4_value_39 : decode cX4_value 39 = .ok (.aload_n 0, 1) := by decide +kernel
theorem dX4_value_40 : decode cX4_value 40 = .ok (.getfield 70, 3) := by decide +kernel
theorem dX4_value_43 : decode cX4_value 43 = .ok (.iconst 0, 1) := by decide +kernel
theorem dX4_value_44 : decode cX4_value 44 = .ok (.laload, 1) := by decide +kernel
theorem dX4_value_45 : decode cX4_value 45 = .ok (.invokestatic 202, 3) := by decide +kernel
theorem dX4_value_48 : decode cX4_value 48 = .ok (.lstore_n 3, 1) := by decide +kernel
theorem dX4_value_49 : decode cX4_value 49 = .ok (.iload_n 2, 1) := by decide +kernel
theorem dX4_value_50 : decode cX4_value 50 = .ok (.ifCond .eq 12, 3) := by decide +kernel
theorem dX4_value_53 : decode cX4_value 53 = .ok (.aload_n 0, 1) := by decide +kernel
theorem dX4_value_54 : decode cX4_value 54 = .ok (.getfield 100, 3) := by decide +kernel
theorem dX4_value_57 : decode cX4_value 57 = .ok (.lload_n 3, 1) := by decide +kernel
theorem dX4_value_58 : decode cX4_value 58 = .ok (.ldiv, 1) := by decide +kernel
theorem dX4_value_59 : decode cX4_value 59 = .ok (.goto 11, 3) := by decide +kernel
theorem dX4_value_62 : decode cX4_value 62 = .ok (.aload_n 0, 1) := by decide +kernel
theorem dX4_value_63 : decode cX4_value 63 = .ok (.getfield 70, 3) := by decide +kernel
theorem dX4_value_66 : decode cX4_value 66 = .ok (.iconst 0, 1) := by decide +kernel
theorem dX4_value_67 : decode cX4_value 67 = .ok (.laload, 1) := by decide +kernel
theorem dX4_value_68 : decode cX4_value 68 = .ok (.lload_n 3, 1) := by decide +kernel
theorem dX4_value_69 : decode cX4_value 69 = .ok (.ldiv, 1) := by decide +kernel
theorem dX4_value_70 : decode cX4_value 70 = .ok (.lreturn, 1) := by decide +kernel
theorem dX4_mark_0 : decode cX4_mark 0 = .ok (.aload_n 0, 1) := by decide +kernel
theorem dX4_mark_1 : decode cX4_mark 1 = .ok (.aload_n 0, 1) := by decide +kernel
theorem dX4_mark_2 : decode cX4_mark 2 = .ok (.iload_n 1, 1) := by decide +kernel
theorem dX4_mark_3 : decode cX4_mark 3 = .ok (.invokevirtual 146, 3) := by decide +kernel
theorem dX4_mark_6 : decode cX4_mark 6 = .ok (.ifCond .eq 7, 3) := by decide +kernel
theorem dX4_mark_9 : decode cX4_mark 9 = .ok (.iconst 0, 1) := by decide +kernel
theorem dX4_mark_10 : decode cX4_mark 10 = .ok (.goto 4, 3) := by decide +kernel
theorem dX4_mark_13 : decode cX4_mark 13 = .ok (.iconst 1, 1) := by decide +kernel
theorem dX4_mark_14 : decode cX4_mark 14 = .ok (.putfield 73, 3) := by decide +kernel
theorem dX4_mark_17 : decode cX4_mark 17 = .ok (.aload_n 0, 1) := by decide +kernel
theorem dX4_mark_18 : decode cX4_mark 18 = .ok (.getfield 73, 3) := by decide +kernel
theorem dX4_mark_21 : decode cX4_mark 21 = .ok (.ifCond .le 7, 3) := by decide +kernel
theorem dX4_mark_24 : decode cX4_mark 24 = .ok (.iconst 0, 1) := by decide +kernel
theorem dX4_mark_25 : decode cX4_mark 25 = .ok (.goto 13, 3) := by decide +kernel
theorem dX4_mark_28 : decode cX4_mark 28 = .ok (.aload_n 0, 1) := by decide +kernel
theorem dX4_mark_29 : decode cX4_mark 29 = .ok (.iload_n 1, 1) := by decide +kernel
theorem dX4_mark_30 : decode cX4_mark 30 = .ok (.aload_n 0, 1) := by decide +kernel
theorem dX4_mark_31 : decode cX4_mark 31 = .ok (.getfield 7, 3) := by decide +kernel
theorem dX4_mark_34 : decode cX4_mark 34 = .ok (.invokevirtual 117, 3) := by decide +kernel
theorem dX4_mark_37 : decode cX4_mark 37 = .ok (.l2i, 1) := by decide +kernel
theorem dX4_mark_38 : decode cX4_mark 38 = .ok (.ireturn, 1) := by decide +kernel
theorem dX4_markByWays_0 : decode cX4_markByWays 0 = .ok (.aload_n 0, 1) := by decide +kernel
theorem dX4_markByWays_1 : decode cX4_markByWays 1 = .ok (.iload_n 1, 1) := by decide +kernel
theorem dX4_markByWays_2 : decode cX4_markByWays 2 = .ok (.invokevirtual 206, 3) := by decide +kernel
theorem dX4_markByWays_5 : decode cX4_markByWays 5 = .ok (.ireturn, 1) := by decide +kernel
theorem dX4_fault_0 : decode cX4_fault 0 = .ok (.aload_n 0, 1) := by decide +kernel
theorem dX4_fault_1 : decode cX4_fault 1 = .ok (.iconst 0, 1) := by decide +kernel
theorem dX4_fault_2 : decode cX4_fault 2 = .ok (.putfield 73, 3) := by decide +kernel
theorem dX4_fault_5 : decode cX4_fault 5 = .ok (.aload_n 0, 1) := by decide +kernel
theorem dX4_fault_6 : decode cX4_fault 6 = .ok (.invokevirtual 149, 3) := by decide +kernel
theorem dX4_fault_9 : decode cX4_fault 9 = .ok (.ireturn, 1) := by decide +kernel
theorem dX4_quoted_0 : decode cX4_quoted 0 = .ok (.aload_n 0, 1) := by decide +kernel
theorem dX4_quoted_1 : decode cX4_quoted 1 = .ok (.aload_n 0, 1) := by decide +kernel
theorem dX4_quoted_2 : decode cX4_quoted 2 = .ok (.iload_n 1, 1) := by decide +kernel
theorem dX4_quoted_3 : decode cX4_quoted 3 = .ok (.invokevirtual 146, 3) := by decide +kernel
theorem dX4_quoted_6 : decode cX4_quoted 6 = .ok (.ifCond .ne 7, 3) := by decide +kernel
theorem dX4_quoted_9 : decode cX4_quoted 9 = .ok (.iconst 1, 1) := by decide +kernel
theorem dX4_quoted_10 : decode cX4_quoted 10 = .ok (.goto 20, 3) := by decide +kernel
theorem dX4_quoted_13 : decode cX4_quoted 13 = .ok (.iload_n 2, 1) := by decide +kernel
theorem dX4_quoted_14 : decode cX4_quoted 14 = .ok (.i2l, 1) := by decide +kernel
theorem dX4_quoted_15 : decode cX4_quoted 15 = .ok (.lconst 0, 1) := by decide +kernel
theorem dX4_quoted_16 : decode cX4_quoted 16 = .ok (.ldc2_w 209, 3) := by decide +kernel
theorem dX4_quoted_19 : decode cX4_quoted 19 = .ok (.invokestatic 79, 3) := by decide +kernel
theorem dX4_quoted_22 : decode cX4_quoted 22 = .ok (.ifCond .eq 7, 3) := by decide +kernel
theorem dX4_quoted_25 : decode cX4_quoted 25 = .ok (.iconst 0, 1) := by decide +kernel
theorem dX4_quoted_26 : decode cX4_quoted 26 = .ok (.goto 4, 3) := by decide +kernel
theorem dX4_quoted_29 : decode cX4_quoted 29 = .ok (.iconst 2, 1) := by decide +kernel
theorem dX4_quoted_30 : decode cX4_quoted 30 = .ok (.putfield 73, 3) := by decide +kernel
theorem dX4_quoted_33 : decode cX4_quoted 33 = .ok (.aload_n 0, 1) := by decide +kernel
theorem dX4_quoted_34 : decode cX4_quoted 34 = .ok (.getfield 73, 3) := by decide +kernel
theorem dX4_quoted_37 : decode cX4_quoted 37 = .ok (.ifCond .gt 11, 3) := by decide +kernel
theorem dX4_quoted_40 : decode cX4_quoted 40 = .ok (.aload_n 0, 1) := by decide +kernel
theorem dX4_quoted_41 : decode cX4_quoted 41 = .ok (.iload_n 1, 1) := by decide +kernel
theorem dX4_quoted_42 : decode cX4_quoted 42 = .ok (.invokevirtual 153, 3) := by decide +kernel
theorem dX4_quoted_45 : decode cX4_quoted 45 = .ok (.ifCond .ne 5, 3) := by decide +kernel
theorem dX4_quoted_48 : decode cX4_quoted 48 = .ok (.iconst 0, 1) := by decide +kernel
theorem dX4_quoted_49 : decode cX4_quoted 49 = .ok (.ireturn, 1) := by decide +kernel
theorem dX4_quoted_50 : decode cX4_quoted 50 = .ok (.iload_n 2, 1) := by decide +kernel
theorem dX4_quoted_51 : decode cX4_quoted 51 = .ok (.ifCond .ne 12, 3) := by decide +kernel
theorem dX4_quoted_54 : decode cX4_quoted 54 = .ok (.aload_n 0, 1) := by decide +kernel
theorem dX4_quoted_55 : decode cX4_quoted 55 = .ok (.getfield 39, 3) := by decide +kernel
theorem dX4_quoted_58 : decode cX4_quoted 58 = .ok (.iload_n 1, 1) := by decide +kernel
theorem dX4_quoted_59 : decode cX4_quoted 59 = .ok (.iaload, 1) := by decide +kernel
theorem dX4_quoted_60 : decode cX4_quoted 60 = .ok (.goto 37, 3) := by decide +kernel
theorem dX4_quoted_63 : decode cX4_quoted 63 = .ok (.iload_n 2, 1) := by decide +kernel
theorem dX4_quoted_64 : decode cX4_quoted 64 = .ok (.iconst 1, 1) := by decide +kernel
theorem dX4_quoted_65 : decode cX4_quoted 65 = .ok (.if_icmp .ne 12, 3) := by decide +kernel
theorem dX4_quoted_68 : decode cX4_quoted 68 = .ok (.aload_n 0, 1) := by decide +kernel
theorem dX4_quoted_69 : decode cX4_quoted 69 = .ok (.getfield 42, 3) := by decide +kernel
theorem dX4_quoted_72 : decode cX4_quoted 72 = .ok (.iload_n 1, 1) := by decide +kernel
theorem dX4_quoted_73 : decode cX4_quoted 73 = .ok (.iaload, 1) := by decide +kernel
theorem dX4_quoted_74 : decode cX4_quoted 74 = .ok (.goto 23, 3) := by decide +kernel
theorem dX4_quoted_77 : decode cX4_quoted 77 = .ok (.iload_n 2, 1) := by decide +kernel
theorem dX4_quoted_78 : decode cX4_quoted 78 = .ok (.iconst 2, 1) := by decide +kernel
theorem dX4_quoted_79 : decode cX4_quoted 79 = .ok (.if_icmp .ne 12, 3) := by decide +kernel
theorem dX4_quoted_82 : decode cX4_quoted 82 = .ok (.aload_n 0, 1) := by decide +kernel
theorem dX4_quoted_83 : decode cX4_quoted 83 = .ok (.getfield 45, 3) := by decide +kernel
theorem dX4_quoted_86 : decode cX4_quoted 86 = .ok (.iload_n 1, 1) := by decide +kernel
theorem dX4_quoted_87 : decode cX4_quoted 87 = .ok (.iaload, 1) := by decide +kernel
theorem dX4_quoted_88 : decode cX4_quoted 88 = .ok (.goto 9, 3) := by decide +kernel
theorem dX4_quoted_91 : decode cX4_quoted 91 = .ok (.aload_n 0, 1) := by decide +kernel
theorem dX4_quoted_92 : decode cX4_quoted 92 = .ok (.getfield 48, 3) := by decide +kernel
theorem dX4_quoted_95 : decode cX4_quoted 95 = .ok (.iload_n 1, 1) := by decide +kernel
theorem dX4_quoted_96 : decode cX4_quoted 96 = .ok (.iaload, 1) := by decide +kernel
theorem dX4_quoted_97 : decode cX4_quoted 97 = .ok (.ireturn, 1) := by decide +kernel
theorem dX4_lots_0 : decode cX4_lots 0 = .ok (.aload_n 0, 1) := by decide +kernel
theorem dX4_lots_1 : decode cX4_lots 1 = .ok (.iload_n 1, 1) := by decide +kernel
theorem dX4_lots_2 : decode cX4_lots 2 = .ok (.invokestatic 191, 3) := by decide +kernel
theorem dX4_lots_5 : decode cX4_lots 5 = .ok (.ifCond .eq 15, 3) := by decide +kernel
theorem dX4_lots_8 : decode cX4_lots 8 = .ok (.aload_n 0, 1) := by decide +kernel
theorem dX4_lots_9 : decode cX4_lots 9 = .ok (.iload_n 2, 1) := by decide +kernel
theorem dX4_lots_10 : decode cX4_lots 10 = .ok (.invokevirtual 146, 3) := by decide +kernel
theorem dX4_lots_13 : decode cX4_lots 13 = .ok (.ifCond .eq 7, 3) := by decide +kernel
theorem dX4_lots_16 : decode cX4_lots 16 = .ok (.iconst 0, 1) := by decide +kernel
theorem dX4_lots_17 : decode cX4_lots 17 = .ok (.goto 4, 3) := by decide +kernel
theorem dX4_lots_20 : decode cX4_lots 20 = .ok (.iconst 1, 1) := by decide +kernel
theorem dX4_lots_21 : decode cX4_lots 21 = .ok (.putfield 73, 3) := by decide +kernel
theorem dX4_lots_24 : decode cX4_lots 24 = .ok (.aload_n 0, 1) := by decide +kernel
theorem dX4_lots_25 : decode cX4_lots 25 = .ok (.getfield 73, 3) := by decide +kernel
theorem dX4_lots_28 : decode cX4_lots 28 = .ok (.ifCond .le 7, 3) := by decide +kernel
theorem dX4_lots_31 : decode cX4_lots 31 = .ok (.iconst 0, 1) := by decide +kernel
theorem dX4_lots_32 : decode cX4_lots 32 = .ok (.goto 13, 3) := by decide +kernel
theorem dX4_lots_35 : decode cX4_lots 35 = .ok (.aload_n 0, 1) := by decide +kernel
theorem dX4_lots_36 : decode cX4_lots 36 = .ok (.getfield 51, 3) := by decide +kernel
theorem dX4_lots_39 : decode cX4_lots 39 = .ok (.iload_n 1, 1) := by decide +kernel
theorem dX4_lots_40 : decode cX4_lots 40 = .ok (.iload_n 2, 1) := by decide +kernel
theorem dX4_lots_41 : decode cX4_lots 41 = .ok (.invokestatic 113, 3) := by decide +kernel
theorem dX4_lots_44 : decode cX4_lots 44 = .ok (.iaload, 1) := by decide +kernel
theorem dX4_lots_45 : decode cX4_lots 45 = .ok (.ireturn, 1) := by decide +kernel
theorem dX4_cash_0 : decode cX4_cash 0 = .ok (.aload_n 0, 1) := by decide +kernel
theorem dX4_cash_1 : decode cX4_cash 1 = .ok (.iload_n 1, 1) := by decide +kernel
theorem dX4_cash_2 : decode cX4_cash 2 = .ok (.invokestatic 191, 3) := by decide +kernel
theorem dX4_cash_5 : decode cX4_cash 5 = .ok (.ifCond .eq 7, 3) := by decide +kernel
theorem dX4_cash_8 : decode cX4_cash 8 = .ok (.iconst 0, 1) := by decide +kernel
theorem dX4_cash_9 : decode cX4_cash 9 = .ok (.goto 4, 3) := by decide +kernel
theorem dX4_cash_12 : decode cX4_cash 12 = .ok (.iconst 1, 1) := by decide +kernel
theorem dX4_cash_13 : decode cX4_cash 13 = .ok (.putfield 73, 3) := by decide +kernel
theorem dX4_cash_16 : decode cX4_cash 16 = .ok (.aload_n 0, 1) := by decide +kernel
theorem dX4_cash_17 : decode cX4_cash 17 = .ok (.getfield 73, 3) := by decide +kernel
theorem dX4_cash_20 : decode cX4_cash 20 = .ok (.ifCond .le 7, 3) := by decide +kernel
theorem dX4_cash_23 : decode cX4_cash 23 = .ok (.lconst 0, 1) := by decide +kernel
theorem dX4_cash_24 : decode cX4_cash 24 = .ok (.goto 19, 3) := by decide +kernel
theorem dX4_cash_27 : decode cX4_cash 27 = .ok (.aload_n 0, 1) := by decide +kernel
theorem dX4_cash_28 : decode cX4_cash 28 = .ok (.getfield 57, 3) := by decide +kernel
theorem dX4_cash_31 : decode cX4_cash 31 = .ok (.iload_n 1, 1) := by decide +kernel
theorem dX4_cash_32 : decode cX4_cash 32 = .ok (.iconst (-1), 1) := by decide +kernel
theorem dX4_cash_33 : decode cX4_cash 33 = .ok (.if_icmp .ne 8, 3) := by decide +kernel
theorem dX4_cash_36 : decode cX4_cash 36 = .ok (.bipush 6, 2) := by decide +kernel
theorem dX4_cash_38 : decode cX4_cash 38 = .ok (.goto 4, 3) := by decide +kernel
theorem dX4_cash_41 : decode cX4_cash 41 = .ok (.iload_n 1, 1) := by decide +kernel
theorem dX4_cash_42 : decode cX4_cash 42 = .ok (.laload, 1) := by decide +kernel
theorem dX4_cash_43 : decode cX4_cash 43 = .ok (.lreturn, 1) := by decide +kernel
theorem dX4_worth_0 : decode cX4_worth 0 = .ok (.aload_n 0, 1) := by decide +kernel
theorem dX4_worth_1 : decode cX4_worth 1 = .ok (.iconst 0, 1) := by decide +kernel
theorem dX4_worth_2 : decode cX4_worth 2 = .ok (.putfield 73, 3) := by decide +kernel
theorem dX4_worth_5 : decode cX4_worth 5 = .ok (.aload_n 0, 1) := by decide +kernel
theorem dX4_worth_6 : decode cX4_worth 6 = .ok (.aload_n 0, 1) := by decide +kernel
theorem dX4_worth_7 : decode cX4_worth 7 = .ok (.getfield 7, 3) := by decide +kernel
theorem dX4_worth_10 : decode cX4_worth 10 = .ok (.invokevirtual 121, 3) := by decide +kernel
theorem dX4_worth_13 : decode cX4_worth 13 = .ok (.lreturn, 1) := by decide +kernel
theorem dX4_cause_0 : decode cX4_cause 0 = .ok (.aload_n 0, 1) := by decide +kernel
theorem dX4_cause_1 : decode cX4_cause 1 = .ok (.iload_n 1, 1) := by decide +kernel
theorem dX4_cause_2 : decode cX4_cause 2 = .ok (.i2l, 1) := by decide +kernel
theorem dX4_cause_3 : decode cX4_cause 3 = .ok (.lconst 0, 1) := by decide +kernel
theorem dX4_cause_4 : decode cX4_cause 4 = .ok (.ldc2_w 85, 3) := by decide +kernel
theorem dX4_cause_7 : decode cX4_cause 7 = .ok (.invokestatic 79, 3) := by decide +kernel
theorem dX4_cause_10 : decode cX4_cause 10 = .ok (.ifCond .eq 7, 3) := by decide +kernel
theorem dX4_cause_13 : decode cX4_cause 13 = .ok (.iconst 0, 1) := by decide +kernel
theorem dX4_cause_14 : decode cX4_cause 14 = .ok (.goto 4, 3) := by decide +kernel
theorem dX4_cause_17 : decode cX4_cause 17 = .ok (.iconst 1, 1) := by decide +kernel
theorem dX4_cause_18 : decode cX4_cause 18 = .ok (.putfield 73, 3) := by decide +kernel
theorem dX4_cause_21 : decode cX4_cause 21 = .ok (.aload_n 0, 1) := by decide +kernel
theorem dX4_cause_22 : decode cX4_cause 22 = .ok (.getfield 73, 3) := by decide +kernel
theorem dX4_cause_25 : decode cX4_cause 25 = .ok (.ifCond .le 7, 3) := by decide +kernel
theorem dX4_cause_28 : decode cX4_cause 28 = .ok (.lconst 0, 1) := by decide +kernel
theorem dX4_cause_29 : decode cX4_cause 29 = .ok (.goto 9, 3) := by decide +kernel
theorem dX4_cause_32 : decode cX4_cause 32 = .ok (.aload_n 0, 1) := by decide +kernel
theorem dX4_cause_33 : decode cX4_cause 33 = .ok (.getfield 67, 3) := by decide +kernel
theorem dX4_cause_36 : decode cX4_cause 36 = .ok (.iload_n 1, 1) := by decide +kernel
theorem dX4_cause_37 : decode cX4_cause 37 = .ok (.laload, 1) := by decide +kernel
theorem dX4_cause_38 : decode cX4_cause 38 = .ok (.lreturn, 1) := by decide +kernel
theorem dX4_worst_0 : decode cX4_worst 0 = .ok (.aload_n 0, 1) := by decide +kernel
theorem dX4_worst_1 : decode cX4_worst 1 = .ok (.iload_n 1, 1) := by decide +kernel
theorem dX4_worst_2 : decode cX4_worst 2 = .ok (.i2l, 1) := by decide +kernel
theorem dX4_worst_3 : decode cX4_worst 3 = .ok (.lconst 0, 1) := by decide +kernel
theorem dX4_worst_4 : decode cX4_worst 4 = .ok (.ldc2_w 144, 3) := by decide +kernel
theorem dX4_worst_7 : decode cX4_worst 7 = .ok (.invokestatic 79, 3) := by decide +kernel
theorem dX4_worst_10 : decode cX4_worst 10 = .ok (.ifCond .eq 7, 3) := by decide +kernel
theorem dX4_worst_13 : decode cX4_worst 13 = .ok (.iconst 0, 1) := by decide +kernel
theorem dX4_worst_14 : decode cX4_worst 14 = .ok (.goto 4, 3) := by decide +kernel
theorem dX4_worst_17 : decode cX4_worst 17 = .ok (.iconst 1, 1) := by decide +kernel
theorem dX4_worst_18 : decode cX4_worst 18 = .ok (.putfield 73, 3) := by decide +kernel
theorem dX4_worst_21 : decode cX4_worst 21 = .ok (.aload_n 0, 1) := by decide +kernel
theorem dX4_worst_22 : decode cX4_worst 22 = .ok (.getfield 73, 3) := by decide +kernel
theorem dX4_worst_25 : decode cX4_worst 25 = .ok (.ifCond .le 5, 3) := by decide +kernel
theorem dX4_worst_28 : decode cX4_worst 28 = .ok (.lconst 0, 1) := by decide +kernel
theorem dX4_worst_29 : decode cX4_worst 29 = .ok (.lreturn, 1) := by decide +kernel
theorem dX4_worst_30 : decode cX4_worst 30 = .ok (.aload_n 0, 1) := by decide +kernel
theorem dX4_worst_31 : decode cX4_worst 31 = .ok (.aload_n 0, 1) := by decide +kernel
theorem dX4_worst_32 : decode cX4_worst 32 = .ok (.getfield 7, 3) := by decide +kernel
theorem dX4_worst_35 : decode cX4_worst 35 = .ok (.invokevirtual 121, 3) := by decide +kernel
theorem dX4_worst_38 : decode cX4_worst 38 = .ok (.lstore_n 2, 1) := by decide +kernel
theorem dX4_worst_39 : decode cX4_worst 39 = .ok (.lconst 0, 1) := by decide +kernel
theorem dX4_worst_40 : decode cX4_worst 40 = .ok (.lstore 4, 2) := by decide +kernel
theorem dX4_worst_42 : decode cX4_worst 42 = .ok (.iload_n 1, 1) := by decide +kernel
theorem dX4_worst_43 : decode cX4_worst 43 = .ok (.ineg, 1) := by decide +kernel
theorem dX4_worst_44 : decode cX4_worst 44 = .ok (.istore 6, 2) := by decide +kernel
theorem dX4_worst_46 : decode cX4_worst 46 = .ok (.iload 6, 2) := by decide +kernel
theorem dX4_worst_48 : decode cX4_worst 48 = .ok (.iload_n 1, 1) := by decide +kernel
theorem dX4_worst_49 : decode cX4_worst 49 = .ok (.if_icmp .gt 44, 3) := by decide +kernel
theorem dX4_worst_52 : decode cX4_worst 52 = .ok (.lload_n 2, 1) := by decide +kernel
theorem dX4_worst_53 : decode cX4_worst 53 = .ok (.aload_n 0, 1) := by decide +kernel
theorem dX4_worst_54 : decode cX4_worst 54 = .ok (.aload_n 0, 1) := by decide +kernel
theorem dX4_worst_55 : decode cX4_worst 55 = .ok (.getfield 7, 3) := by decide +kernel
theorem dX4_worst_58 : decode cX4_worst 58 = .ok (.bipush 10, 2) := by decide +kernel
theorem dX4_worst_60 : decode cX4_worst 60 = .ok (.iload 6, 2) := by decide +kernel
theorem dX4_worst_62 : decode cX4_worst 62 = .ok (.imul, 1) := by decide +kernel
theorem dX4_worst_63 : decode cX4_worst 63 = .ok (.iadd, 1) := by decide +kernel
theorem dX4_worst_64 : decode cX4_worst 64 = .ok (.invokevirtual 121, 3) := by decide +kernel
theorem dX4_worst_67 : decode cX4_worst 67 = .ok (.lsub, 1) := by decide +kernel
theorem dX4_worst_68 : decode cX4_worst 68 = .ok (.lstore 7, 2) := by decide +kernel
theorem dX4_worst_70 : decode cX4_worst 70 = .ok (.lload 7, 2) := by decide +kernel
theorem dX4_worst_72 : decode cX4_worst 72 = .ok (.lload 4, 2) := by decide +kernel
theorem dX4_worst_74 : decode cX4_worst 74 = .ok (.lcmp, 1) := by decide +kernel
theorem dX4_worst_75 : decode cX4_worst 75 = .ok (.ifCond .le 8, 3) := by decide +kernel
theorem dX4_worst_78 : decode cX4_worst 78 = .ok (.lload 7, 2) := by decide +kernel
theorem dX4_worst_80 : decode cX4_worst 80 = .ok (.goto 5, 3) := by decide +kernel
theorem dX4_worst_83 : decode cX4_worst 83 = .ok (.lload 4, 2) := by decide +kernel
theorem dX4_worst_85 : decode cX4_worst 85 = .ok (.lstore 4, 2) := by decide +kernel
theorem dX4_worst_87 : decode cX4_worst 87 = .ok (.iinc 6 1, 3) := by decide +kernel
theorem dX4_worst_90 : decode cX4_worst 90 = .ok (.goto (-44), 3) := by decide +kernel
theorem dX4_worst_93 : decode cX4_worst 93 = .ok (.lload 4, 2) := by decide +kernel
theorem dX4_worst_95 : decode cX4_worst 95 = .ok (.lreturn, 1) := by decide +kernel
theorem dJ9_abs_0f7a4_0 : decode cJ9_abs_0f7a4 0 = .ok (.iload_n 0, 1) := by decide +kernel
theorem dJ9_abs_0f7a4_1 : decode cJ9_abs_0f7a4 1 = .ok (.ifCond .ge 8, 3) := by decide +kernel
theorem dJ9_abs_0f7a4_4 : decode cJ9_abs_0f7a4 4 = .ok (.iload_n 0, 1) := by decide +kernel
theorem dJ9_abs_0f7a4_5 : decode cJ9_abs_0f7a4 5 = .ok (.ineg, 1) := by decide +kernel
theorem dJ9_abs_0f7a4_6 : decode cJ9_abs_0f7a4 6 = .ok (.goto 4, 3) := by decide +kernel
theorem dJ9_abs_0f7a4_9 : decode cJ9_abs_0f7a4 9 = .ok (.iload_n 0, 1) := by decide +kernel
theorem dJ9_abs_0f7a4_10 : decode cJ9_abs_0f7a4 10 = .ok (.ireturn, 1) := by decide +kernel
theorem dJ9_max_7cf53_0 : decode cJ9_max_7cf53 0 = .ok (.iload_n 0, 1) := by decide +kernel
theorem dJ9_max_7cf53_1 : decode cJ9_max_7cf53 1 = .ok (.iload_n 1, 1) := by decide +kernel
theorem dJ9_max_7cf53_2 : decode cJ9_max_7cf53 2 = .ok (.if_icmp .lt 7, 3) := by decide +kernel
theorem dJ9_max_7cf53_5 : decode cJ9_max_7cf53 5 = .ok (.iload_n 0, 1) := by decide +kernel
theorem dJ9_max_7cf53_6 : decode cJ9_max_7cf53 6 = .ok (.goto 4, 3) := by decide +kernel
theorem dJ9_max_7cf53_9 : decode cJ9_max_7cf53 9 = .ok (.iload_n 1, 1) := by decide +kernel
theorem dJ9_max_7cf53_10 : decode cJ9_max_7cf53 10 = .ok (.ireturn, 1) := by decide +kernel
theorem dJ9_max_f86c9_0 : decode cJ9_max_f86c9 0 = .ok (.lload_n 0, 1) := by decide +kernel
theorem dJ9_max_f86c9_1 : decode cJ9_max_f86c9 1 = .ok (.lload_n 2, 1) := by decide +kernel
theorem dJ9_max_f86c9_2 : decode cJ9_max_f86c9 2 = .ok (.lcmp, 1) := by decide +kernel
theorem dJ9_max_f86c9_3 : decode cJ9_max_f86c9 3 = .ok (.ifCond .lt 7, 3) := by decide +kernel
theorem dJ9_max_f86c9_6 : decode cJ9_max_f86c9 6 = .ok (.lload_n 0, 1) := by decide +kernel
theorem dJ9_max_f86c9_7 : decode cJ9_max_f86c9 7 = .ok (.goto 4, 3) := by decide +kernel
theorem dJ9_max_f86c9_10 : decode cJ9_max_f86c9 10 = .ok (.lload_n 2, 1) := by decide +kernel
theorem dJ9_max_f86c9_11 : decode cJ9_max_f86c9 11 = .ok (.lreturn, 1) := by decide +kernel
theorem dJ9_min_7cf53_0 : decode cJ9_min_7cf53 0 = .ok (.iload_n 0, 1) := by decide +kernel
theorem dJ9_min_7cf53_1 : decode cJ9_min_7cf53 1 = .ok (.iload_n 1, 1) := by decide +kernel
theorem dJ9_min_7cf53_2 : decode cJ9_min_7cf53 2 = .ok (.if_icmp .gt 7, 3) := by decide +kernel
theorem dJ9_min_7cf53_5 : decode cJ9_min_7cf53 5 = .ok (.iload_n 0, 1) := by decide +kernel
theorem dJ9_min_7cf53_6 : decode cJ9_min_7cf53 6 = .ok (.goto 4, 3) := by decide +kernel
theorem dJ9_min_7cf53_9 : decode cJ9_min_7cf53 9 = .ok (.iload_n 1, 1) := by decide +kernel
theorem dJ9_min_7cf53_10 : decode cJ9_min_7cf53 10 = .ok (.ireturn, 1) := by decide +kernel
theorem dJxa1e45_init_da8c8_0 : decode cJxa1e45_init_da8c8 0 = .ok (.aload_n 0, 1) := by decide +kernel
theorem dJxa1e45_init_da8c8_1 : decode cJxa1e45_init_da8c8 1 = .ok (.invokespecial 1, 3) := by decide +kernel
theorem dJxa1e45_init_da8c8_4 : decode cJxa1e45_init_da8c8 4 = .ok (.return_, 1) := by decide +kernel
theorem dJxc12de_init_da8c8_0 : decode cJxc12de_init_da8c8 0 = .ok (.aload_n 0, 1) := by decide +kernel
theorem dJxc12de_init_da8c8_1 : decode cJxc12de_init_da8c8 1 = .ok (.invokespecial 1, 3) := by decide +kernel
theorem dJxc12de_init_da8c8_4 : decode cJxc12de_init_da8c8 4 = .ok (.aload_n 0, 1) := by decide +kernel
theorem dJxc12de_init_da8c8_5 : decode cJxc12de_init_da8c8 5 = .ok (.iconst 0, 1) := by decide +kernel
theorem dJxc12de_init_da8c8_6 : decode cJxc12de_init_da8c8 6 = .ok (.putfield 7, 3) := by decide +kernel
theorem dJxc12de_init_da8c8_9 : decode cJxc12de_init_da8c8 9 = .ok (.return_, 1) := by decide +kernel
theorem dJx4a65c_init_da8c8_0 : decode cJx4a65c_init_da8c8 0 = .ok (.aload_n 0, 1) := by decide +kernel
theorem dJx4a65c_init_da8c8_1 : decode cJx4a65c_init_da8c8 1 = .ok (.invokespecial 1, 3) := by decide +kernel
theorem dJx4a65c_init_da8c8_4 : decode cJx4a65c_init_da8c8 4 = .ok (.aload_n 0, 1) := by decide +kernel
theorem dJx4a65c_init_da8c8_5 : decode cJx4a65c_init_da8c8 5 = .ok (.getstatic 39, 3) := by decide +kernel
theorem dJx4a65c_init_da8c8_8 : decode cJx4a65c_init_da8c8 8 = .ok (.putfield 9, 3) := by decide +kernel
theorem dJx4a65c_init_da8c8_11 : decode cJx4a65c_init_da8c8 11 = .ok (.return_, 1) := by decide +kernel
theorem dJx4a65c_grow_92f84_0 : decode cJx4a65c_grow_92f84 0 = .ok (.aload_n 0, 1) := by decide +kernel
theorem dJx4a65c_grow_92f84_1 : decode cJx4a65c_grow_92f84 1 = .ok (.getfield 9, 3) := by decide +kernel
theorem dJx4a65c_grow_92f84_4 : decode cJx4a65c_grow_92f84 4 = .ok (.arraylength, 1) := by decide +kernel
theorem dJx4a65c_grow_92f84_5 : decode cJx4a65c_grow_92f84 5 = .ok (.istore_n 2, 1) := by decide +kernel
theorem dJx4a65c_grow_92f84_6 : decode cJx4a65c_grow_92f84 6 = .ok (.iload_n 2, 1) := by decide +kernel
theorem dJx4a65c_grow_92f84_7 : decode cJx4a65c_grow_92f84 7 = .ok (.ifCond .gt 13, 3) := by decide +kernel
theorem dJx4a65c_grow_92f84_10 : decode cJx4a65c_grow_92f84 10 = .ok (.aload_n 0, 1) := by decide +kernel
theorem dJx4a65c_grow_92f84_11 : decode cJx4a65c_grow_92f84 11 = .ok (.getfield 9, 3) := by decide +kernel
theorem dJx4a65c_grow_92f84_14 : decode cJx4a65c_grow_92f84 14 = .ok (.getstatic 39, 3) := by decide +kernel
theorem dJx4a65c_grow_92f84_17 : decode cJx4a65c_grow_92f84 17 = .ok (.if_acmp .eq 28, 3) := by decide +kernel
theorem dJx4a65c_grow_92f84_20 : decode cJx4a65c_grow_92f84 20 = .ok (.iload_n 2, 1) := by decide +kernel
theorem dJx4a65c_grow_92f84_21 : decode cJx4a65c_grow_92f84 21 = .ok (.iload_n 1, 1) := by decide +kernel
theorem dJx4a65c_grow_92f84_22 : decode cJx4a65c_grow_92f84 22 = .ok (.iload_n 2, 1) := by decide +kernel
theorem dJx4a65c_grow_92f84_23 : decode cJx4a65c_grow_92f84 23 = .ok (.isub, 1) := by decide +kernel
theorem dJx4a65c_grow_92f84_24 : decode cJx4a65c_grow_92f84 24 = .ok (.iload_n 2, 1) := by decide +kernel
theorem dJx4a65c_grow_92f84_25 : decode cJx4a65c_grow_92f84 25 = .ok (.iconst 1, 1) := by decide +kernel
theorem dJx4a65c_grow_92f84_26 : decode cJx4a65c_grow_92f84 26 = .ok (.ishr, 1) := by decide +kernel
theorem dJx4a65c_grow_92f84_27 : decode cJx4a65c_grow_92f84 27 = .ok (.invokestatic 73, 3) := by decide +kernel
theorem dJx4a65c_grow_92f84_30 : decode cJx4a65c_grow_92f84 30 = .ok (.istore_n 3, 1) := by decide +kernel
theorem dJx4a65c_grow_92f84_31 : decode cJx4a65c_grow_92f84 31 = .ok (.aload_n 0, 1) := by decide +kernel
theorem dJx4a65c_grow_92f84_32 : decode cJx4a65c_grow_92f84 32 = .ok (.aload_n 0, 1) := by decide +kernel
theorem dJx4a65c_grow_92f84_33 : decode cJx4a65c_grow_92f84 33 = .ok (.getfield 9, 3) := by decide +kernel
theorem dJx4a65c_grow_92f84_36 : decode cJx4a65c_grow_92f84 36 = .ok (.iload_n 3, 1) := by decide +kernel
theorem dJx4a65c_grow_92f84_37 : decode cJx4a65c_grow_92f84 37 = .ok (.invokestatic 66, 3) := by decide +kernel
theorem dJx4a65c_grow_92f84_40 : decode cJx4a65c_grow_92f84 40 = .ok (.dup_x1, 1) := by decide +kernel
theorem dJx4a65c_grow_92f84_41 : decode cJx4a65c_grow_92f84 41 = .ok (.putfield 9, 3) := by decide +kernel
theorem dJx4a65c_grow_92f84_44 : decode cJx4a65c_grow_92f84 44 = .ok (.areturn, 1) := by decide +kernel
theorem dJx4a65c_grow_92f84_45 : decode cJx4a65c_grow_92f84 45 = .ok (.aload_n 0, 1) := by decide +kernel
theorem dJx4a65c_grow_92f84_46 : decode cJx4a65c_grow_92f84 46 = .ok (.bipush 10, 2) := by decide +kernel
theorem dJx4a65c_grow_92f84_48 : decode cJx4a65c_grow_92f84 48 = .ok (.iload_n 1, 1) := by decide +kernel
theorem dJx4a65c_grow_92f84_49 : decode cJx4a65c_grow_92f84 49 = .ok (.invokestatic 79, 3) := by decide +kernel
theorem dJx4a65c_grow_92f84_52 : decode cJx4a65c_grow_92f84 52 = .ok (.anewarray 7, 3) := by decide +kernel
theorem dJx4a65c_grow_92f84_55 : decode cJx4a65c_grow_92f84 55 = .ok (.dup_x1, 1) := by decide +kernel
theorem dJx4a65c_grow_92f84_56 : decode cJx4a65c_grow_92f84 56 = .ok (.putfield 9, 3) := by decide +kernel
theorem dJx4a65c_grow_92f84_59 : decode cJx4a65c_grow_92f84 59 = .ok (.areturn, 1) := by decide +kernel
theorem dJx4a65c_grow_d5877_0 : decode cJx4a65c_grow_d5877 0 = .ok (.aload_n 0, 1) := by decide +kernel
theorem dJx4a65c_grow_d5877_1 : decode cJx4a65c_grow_d5877 1 = .ok (.aload_n 0, 1) := by decide +kernel
theorem dJx4a65c_grow_d5877_2 : decode cJx4a65c_grow_d5877 2 = .ok (.getfield 48, 3) := by decide +kernel
theorem dJx4a65c_grow_d5877_5 : decode cJx4a65c_grow_d5877 5 = .ok (.iconst 1, 1) := by decide +kernel
theorem dJx4a65c_grow_d5877_6 : decode cJx4a65c_grow_d5877 6 = .ok (.iadd, 1) := by decide +kernel
theorem dJx4a65c_grow_d5877_7 : decode cJx4a65c_grow_d5877 7 = .ok (.invokevirtual 69, 3) := by decide +kernel
theorem dJx4a65c_grow_d5877_10 : decode cJx4a65c_grow_d5877 10 = .ok (.areturn, 1) := by decide +kernel
theorem dJx4a65c_size_8abf5_0 : decode cJx4a65c_size_8abf5 0 = .ok (.aload_n 0, 1) := by decide +kernel
theorem dJx4a65c_size_8abf5_1 : decode cJx4a65c_size_8abf5 1 = .ok (.getfield 48, 3) := by decide +kernel
theorem dJx4a65c_size_8abf5_4 : decode cJx4a65c_size_8abf5 4 = .ok (.ireturn, 1) := by decide +kernel
theorem dJx4a65c_elementData_915e3_0 : decode cJx4a65c_elementData_915e3 0 = .ok (.aload_n 0, 1) := by decide +kernel
theorem dJx4a65c_elementData_915e3_1 : decode cJx4a65c_elementData_915e3 1 = .ok (.getfield 9, 3) := by decide +kernel
theorem dJx4a65c_elementData_915e3_4 : decode cJx4a65c_elementData_915e3 4 = .ok (.iload_n 1, 1) := by decide +kernel
theorem dJx4a65c_elementData_915e3_5 : decode cJx4a65c_elementData_915e3 5 = .ok (.aaload, 1) := by decide +kernel
theorem dJx4a65c_elementData_915e3_6 : decode cJx4a65c_elementData_915e3 6 = .ok (.areturn, 1) := by decide +kernel
theorem dJx4a65c_get_915e3_0 : decode cJx4a65c_get_915e3 0 = .ok (.iload_n 1, 1) := by decide +kernel
theorem dJx4a65c_get_915e3_1 : decode cJx4a65c_get_915e3 1 = .ok (.aload_n 0, 1) := by decide +kernel
theorem dJx4a65c_get_915e3_2 : decode cJx4a65c_get_915e3 2 = .ok (.getfield 48, 3) := by decide +kernel
theorem dJx4a65c_get_915e3_5 : decode cJx4a65c_get_915e3 5 = .ok (.invokestatic 118, 3) := by decide +kernel
theorem dJx4a65c_get_915e3_8 : decode cJx4a65c_get_915e3 8 = .ok (.pop, 1) := by decide +kernel
theorem dJx4a65c_get_915e3_9 : decode cJx4a65c_get_915e3 9 = .ok (.aload_n 0, 1) := by decide +kernel
theorem dJx4a65c_get_915e3_10 : decode cJx4a65c_get_915e3 10 = .ok (.iload_n 1, 1) := by decide +kernel
theorem dJx4a65c_get_915e3_11 : decode cJx4a65c_get_915e3 11 = .ok (.invokevirtual 123, 3) := by decide +kernel
theorem dJx4a65c_get_915e3_14 : decode cJx4a65c_get_915e3 14 = .ok (.areturn, 1) := by decide +kernel
theorem dJx4a65c_add_72be8_0 : decode cJx4a65c_add_72be8 0 = .ok (.iload_n 3, 1) := by decide +kernel
theorem dJx4a65c_add_72be8_1 : decode cJx4a65c_add_72be8 1 = .ok (.aload_n 2, 1) := by decide +kernel
theorem dJx4a65c_add_72be8_2 : decode cJx4a65c_add_72be8 2 = .ok (.arraylength, 1) := by decide +kernel
theorem dJx4a65c_add_72be8_3 : decode cJx4a65c_add_72be8 3 = .ok (.if_icmp .ne 8, 3) := by decide +kernel
theorem dJx4a65c_add_72be8_6 : decode cJx4a65c_add_72be8 6 = .ok (.aload_n 0, 1) := by decide +kernel
theorem dJx4a65c_add_72be8_7 : decode cJx4a65c_add_72be8 7 = .ok (.invokevirtual 129, 3) := by decide +kernel
theorem dJx4a65c_add_72be8_10 : decode cJx4a65c_add_72be8 10 = .ok (.astore_n 2, 1) := by decide +kernel
theorem dJx4a65c_add_72be8_11 : decode cJx4a65c_add_72be8 11 = .ok (.aload_n 2, 1) := by decide +kernel
theorem dJx4a65c_add_72be8_12 : decode cJx4a65c_add_72be8 12 = .ok (.iload_n 3, 1) := by decide +kernel
theorem dJx4a65c_add_72be8_13 : decode cJx4a65c_add_72be8 13 = .ok (.aload_n 1, 1) := by decide +kernel
theorem dJx4a65c_add_72be8_14 : decode cJx4a65c_add_72be8 14 = .ok (.aastore, 1) := by decide +kernel
theorem dJx4a65c_add_72be8_15 : decode cJx4a65c_add_72be8 15 = .ok (.aload_n 0, 1) := by decide +kernel
theorem dJx4a65c_add_72be8_16 : decode cJx4a65c_add_72be8 16 = .ok (.iload_n 3, 1) := by decide +kernel
theorem dJx4a65c_add_72be8_17 : decode cJx4a65c_add_72be8 17 = .ok (.iconst 1, 1) := by decide +kernel
theorem dJx4a65c_add_72be8_18 : decode cJx4a65c_add_72be8 18 = .ok (.iadd, 1) := by decide +kernel
theorem dJx4a65c_add_72be8_19 : decode cJx4a65c_add_72be8 19 = .ok (.putfield 48, 3) := by decide +kernel
theorem dJx4a65c_add_72be8_22 : decode cJx4a65c_add_72be8 22 = .ok (.return_, 1) := by decide +kernel
theorem dJx4a65c_add_9ea2d_0 : decode cJx4a65c_add_9ea2d 0 = .ok (.aload_n 0, 1) := by decide +kernel
theorem dJx4a65c_add_9ea2d_1 : decode cJx4a65c_add_9ea2d 1 = .ok (.dup, 1) := by decide +kernel
theorem dJx4a65c_add_9ea2d_2 : decode cJx4a65c_add_9ea2d 2 = .ok (.getfield 63, 3) := by decide +kernel
theorem dJx4a65c_add_9ea2d_5 : decode cJx4a65c_add_9ea2d 5 = .ok (.iconst 1, 1) := by decide +kernel
theorem dJx4a65c_add_9ea2d_6 : decode cJx4a65c_add_9ea2d 6 = .ok (.iadd, 1) := by decide +kernel
theorem dJx4a65c_add_9ea2d_7 : decode cJx4a65c_add_9ea2d 7 = .ok (.putfield 63, 3) := by decide +kernel
theorem dJx4a65c_add_9ea2d_10 : decode cJx4a65c_add_9ea2d 10 = .ok (.aload_n 0, 1) := by decide +kernel
theorem dJx4a65c_add_9ea2d_11 : decode cJx4a65c_add_9ea2d 11 = .ok (.aload_n 1, 1) := by decide +kernel
theorem dJx4a65c_add_9ea2d_12 : decode cJx4a65c_add_9ea2d 12 = .ok (.aload_n 0, 1) := by decide +kernel
theorem dJx4a65c_add_9ea2d_13 : decode cJx4a65c_add_9ea2d 13 = .ok (.getfield 9, 3) := by decide +kernel
theorem dJx4a65c_add_9ea2d_16 : decode cJx4a65c_add_9ea2d 16 = .ok (.aload_n 0, 1) := by decide +kernel
theorem dJx4a65c_add_9ea2d_17 : decode cJx4a65c_add_9ea2d 17 = .ok (.getfield 48, 3) := by decide +kernel
theorem dJx4a65c_add_9ea2d_20 : decode cJx4a65c_add_9ea2d 20 = .ok (.invokevirtual 131, 3) := by decide +kernel
theorem dJx4a65c_add_9ea2d_23 : decode cJx4a65c_add_9ea2d 23 = .ok (.iconst 1, 1) := by decide +kernel
theorem dJx4a65c_add_9ea2d_24 : decode cJx4a65c_add_9ea2d 24 = .ok (.ireturn, 1) := by decide +kernel
theorem dJ7_copyOf_1904c_0 : decode cJ7_copyOf_1904c 0 = .ok (.aload_n 0, 1) := by decide +kernel
theorem dJ7_copyOf_1904c_1 : decode cJ7_copyOf_1904c 1 = .ok (.iload_n 1, 1) := by decide +kernel
theorem dJ7_copyOf_1904c_2 : decode cJ7_copyOf_1904c 2 = .ok (.aload_n 0, 1) := by decide +kernel
theorem dJ7_copyOf_1904c_3 : decode cJ7_copyOf_1904c 3 = .ok (.invokevirtual 86, 3) := by decide +kernel
theorem dJ7_copyOf_1904c_6 : decode cJ7_copyOf_1904c 6 = .ok (.invokestatic 300, 3) := by decide +kernel
theorem dJ7_copyOf_1904c_9 : decode cJ7_copyOf_1904c 9 = .ok (.areturn, 1) := by decide +kernel
theorem dJ7_copyOf_6403c_0 : decode cJ7_copyOf_6403c 0 = .ok (.aload_n 2, 1) := by decide +kernel
theorem dJ7_copyOf_6403c_1 : decode cJ7_copyOf_6403c 1 = .ok (.ldc 110, 2) := by decide +kernel
theorem dJ7_copyOf_6403c_3 : decode cJ7_copyOf_6403c 3 = .ok (.if_acmp .ne 10, 3) := by decide +kernel
theorem dJ7_copyOf_6403c_6 : decode cJ7_copyOf_6403c 6 = .ok (.iload_n 1, 1) := by decide +kernel
theorem dJ7_copyOf_6403c_7 : decode cJ7_copyOf_6403c 7 = .ok (.anewarray 2, 3) := by decide +kernel
theorem dJ7_copyOf_6403c_10 : decode cJ7_copyOf_6403c 10 = .ok (.goto 14, 3) := by decide +kernel
theorem dJ7_copyOf_6403c_13 : decode cJ7_copyOf_6403c 13 = .ok (.aload_n 2, 1) := by decide +kernel
theorem dJ7_copyOf_6403c_14 : decode cJ7_copyOf_6403c 14 = .ok (.invokevirtual 90, 3) := by decide +kernel
theorem dJ7_copyOf_6403c_17 : decode cJ7_copyOf_6403c 17 = .ok (.iload_n 1, 1) := by decide +kernel
theorem dJ7_copyOf_6403c_18 : decode cJ7_copyOf_6403c 18 = .ok (.invokestatic 95, 3) := by decide +kernel
theorem dJ7_copyOf_6403c_21 : decode cJ7_copyOf_6403c 21 = .ok (.checkcast 110, 3) := by decide +kernel
theorem dJ7_copyOf_6403c_24 : decode cJ7_copyOf_6403c 24 = .ok (.astore_n 3, 1) := by decide +kernel
theorem dJ7_copyOf_6403c_25 : decode cJ7_copyOf_6403c 25 = .ok (.aload_n 0, 1) := by decide +kernel
theorem dJ7_copyOf_6403c_26 : decode cJ7_copyOf_6403c 26 = .ok (.iconst 0, 1) := by decide +kernel
theorem dJ7_copyOf_6403c_27 : decode cJ7_copyOf_6403c 27 = .ok (.aload_n 3, 1) := by decide +kernel
theorem dJ7_copyOf_6403c_28 : decode cJ7_copyOf_6403c 28 = .ok (.iconst 0, 1) := by decide +kernel
theorem dJ7_copyOf_6403c_29 : decode cJ7_copyOf_6403c 29 = .ok (.aload_n 0, 1) := by decide +kernel
theorem dJ7_copyOf_6403c_30 : decode cJ7_copyOf_6403c 30 = .ok (.arraylength, 1) := by decide +kernel
theorem dJ7_copyOf_6403c_31 : decode cJ7_copyOf_6403c 31 = .ok (.iload_n 1, 1) := by decide +kernel
theorem dJ7_copyOf_6403c_32 : decode cJ7_copyOf_6403c 32 = .ok (.invokestatic 304, 3) := by decide +kernel
theorem dJ7_copyOf_6403c_35 : decode cJ7_copyOf_6403c 35 = .ok (.invokestatic 150, 3) := by decide +kernel
theorem dJ7_copyOf_6403c_38 : decode cJ7_copyOf_6403c 38 = .ok (.aload_n 3, 1) := by decide +kernel
theorem dJ7_copyOf_6403c_39 : decode cJ7_copyOf_6403c 39 = .ok (.areturn, 1) := by decide +kernel
theorem dJ15_checkIndex_7cf53_0 : decode cJ15_checkIndex_7cf53 0 = .ok (.iload_n 0, 1) := by decide +kernel
theorem dJ15_checkIndex_7cf53_1 : decode cJ15_checkIndex_7cf53 1 = .ok (.iload_n 1, 1) := by decide +kernel
theorem dJ15_checkIndex_7cf53_2 : decode cJ15_checkIndex_7cf53 2 = .ok (.aconst_null, 1) := by decide +kernel
theorem dJ15_checkIndex_7cf53_3 : decode cJ15_checkIndex_7cf53 3 = .ok (.invokestatic 105, 3) := by decide +kernel
theorem dJ15_checkIndex_7cf53_6 : decode cJ15_checkIndex_7cf53 6 = .ok (.ireturn, 1) := by decide +kernel
theorem dJ8_newLength_cabcc_0 : decode cJ8_newLength_cabcc 0 = .ok (.iload_n 0, 1) := by decide +kernel
theorem dJ8_newLength_cabcc_1 : decode cJ8_newLength_cabcc 1 = .ok (.iload_n 1, 1) := by decide +kernel
theorem dJ8_newLength_cabcc_2 : decode cJ8_newLength_cabcc 2 = .ok (.iload_n 2, 1) := by decide +kernel
theorem dJ8_newLength_cabcc_3 : decode cJ8_newLength_cabcc 3 = .ok (.invokestatic 194, 3) := by decide +kernel
theorem dJ8_newLength_cabcc_6 : decode cJ8_newLength_cabcc 6 = .ok (.iadd, 1) := by decide +kernel
theorem dJ8_newLength_cabcc_7 : decode cJ8_newLength_cabcc 7 = .ok (.istore_n 3, 1) := by decide +kernel
theorem dJ8_newLength_cabcc_8 : decode cJ8_newLength_cabcc 8 = .ok (.iconst 0, 1) := by decide +kernel
theorem dJ8_newLength_cabcc_9 : decode cJ8_newLength_cabcc 9 = .ok (.iload_n 3, 1) := by decide +kernel
theorem dJ8_newLength_cabcc_10 : decode cJ8_newLength_cabcc 10 = .ok (.if_icmp .ge 11, 3) := by decide +kernel
theorem dJ8_newLength_cabcc_13 : decode cJ8_newLength_cabcc 13 = .ok (.iload_n 3, 1) := by decide +kernel
theorem dJ8_newLength_cabcc_14 : decode cJ8_newLength_cabcc 14 = .ok (.ldc 200, 2) := by decide +kernel
theorem dJ8_newLength_cabcc_16 : decode cJ8_newLength_cabcc 16 = .ok (.if_icmp .gt 5, 3) := by decide +kernel
theorem dJ8_newLength_cabcc_19 : decode cJ8_newLength_cabcc 19 = .ok (.iload_n 3, 1) := by decide +kernel
theorem dJ8_newLength_cabcc_20 : decode cJ8_newLength_cabcc 20 = .ok (.ireturn, 1) := by decide +kernel
theorem dJ8_newLength_cabcc_21 : decode cJ8_newLength_cabcc 21 = .ok (.iload_n 0, 1) := by decide +kernel
theorem dJ8_newLength_cabcc_22 : decode cJ8_newLength_cabcc 22 = .ok (.iload_n 1, 1) := by decide +kernel
theorem dJ8_newLength_cabcc_23 : decode cJ8_newLength_cabcc 23 = .ok (.invokestatic 201, 3) := by decide +kernel
theorem dJ8_newLength_cabcc_26 : decode cJ8_newLength_cabcc 26 = .ok (.ireturn, 1) := by decide +kernel
theorem dJ8_hugeLength_7cf53_0 : decode cJ8_hugeLength_7cf53 0 = .ok (.iload_n 0, 1) := by decide +kernel
theorem dJ8_hugeLength_7cf53_1 : decode cJ8_hugeLength_7cf53 1 = .ok (.iload_n 1, 1) := by decide +kernel
theorem dJ8_hugeLength_7cf53_2 : decode cJ8_hugeLength_7cf53 2 = .ok (.iadd, 1) := by decide +kernel
theorem dJ8_hugeLength_7cf53_3 : decode cJ8_hugeLength_7cf53 3 = .ok (.istore_n 2, 1) := by decide +kernel
theorem dJ8_hugeLength_7cf53_4 : decode cJ8_hugeLength_7cf53 4 = .ok (.iload_n 2, 1) := by decide +kernel
theorem dJ8_hugeLength_7cf53_5 : decode cJ8_hugeLength_7cf53 5 = .ok (.ifCond .ge 44, 3) := by decide +kernel
theorem dJ8_hugeLength_7cf53_8 : decode cJ8_hugeLength_7cf53 8 = .ok (.new 204, 3) := by decide +kernel
theorem dJ8_hugeLength_7cf53_11 : decode cJ8_hugeLength_7cf53 11 = .ok (.dup, 1) := by decide +kernel
theorem dJ8_hugeLength_7cf53_12 : decode cJ8_hugeLength_7cf53 12 = .ok (.new 89, 3) := by decide +kernel
theorem dJ8_hugeLength_7cf53_15 : decode cJ8_hugeLength_7cf53 15 = .ok (.dup, 1) := by decide +kernel
theorem dJ8_hugeLength_7cf53_16 : decode cJ8_hugeLength_7cf53 16 = .ok (.invokespecial 91, 3) := by decide +kernel
theorem dJ8_hugeLength_7cf53_19 : decode cJ8_hugeLength_7cf53 19 = .ok (.ldc 206, 2) := by decide +kernel
theorem dJ8_hugeLength_7cf53_21 : decode cJ8_hugeLength_7cf53 21 = .ok (.invokevirtual 94, 3) := by decide +kernel
theorem dJ8_hugeLength_7cf53_24 : decode cJ8_hugeLength_7cf53 24 = .ok (.iload_n 0, 1) := by decide +kernel
theorem dJ8_hugeLength_7cf53_25 : decode cJ8_hugeLength_7cf53 25 = .ok (.invokevirtual 98, 3) := by decide +kernel
theorem dJ8_hugeLength_7cf53_28 : decode cJ8_hugeLength_7cf53 28 = .ok (.ldc 208, 2) := by decide +kernel
theorem dJ8_hugeLength_7cf53_30 : decode cJ8_hugeLength_7cf53 30 = .ok (.invokevirtual 94, 3) := by decide +kernel
theorem dJ8_hugeLength_7cf53_33 : decode cJ8_hugeLength_7cf53 33 = .ok (.iload_n 1, 1) := by decide +kernel
theorem dJ8_hugeLength_7cf53_34 : decode cJ8_hugeLength_7cf53 34 = .ok (.invokevirtual 98, 3) := by decide +kernel
theorem dJ8_hugeLength_7cf53_37 : decode cJ8_hugeLength_7cf53 37 = .ok (.ldc 210, 2) := by decide +kernel
theorem dJ8_hugeLength_7cf53_39 : decode cJ8_hugeLength_7cf53 39 = .ok (.invokevirtual 94, 3) := by decide +kernel
theorem dJ8_hugeLength_7cf53_42 : decode cJ8_hugeLength_7cf53 42 = .ok (.invokevirtual 101, 3) := by decide +kernel
theorem dJ8_hugeLength_7cf53_45 : decode cJ8_hugeLength_7cf53 45 = .ok (.invokespecial 212, 3) := by decide +kernel
theorem dJ8_hugeLength_7cf53_48 : decode cJ8_hugeLength_7cf53 48 = .ok (.athrow, 1) := by decide +kernel
theorem dJ8_hugeLength_7cf53_49 : decode cJ8_hugeLength_7cf53 49 = .ok (.iload_n 2, 1) := by decide +kernel
theorem dJ8_hugeLength_7cf53_50 : decode cJ8_hugeLength_7cf53 50 = .ok (.ldc 200, 2) := by decide +kernel
theorem dJ8_hugeLength_7cf53_52 : decode cJ8_hugeLength_7cf53 52 = .ok (.if_icmp .gt 6, 3) := by decide +kernel
theorem dJ8_hugeLength_7cf53_55 : decode cJ8_hugeLength_7cf53 55 = .ok (.ldc 200, 2) := by decide +kernel
theorem dJ8_hugeLength_7cf53_57 : decode cJ8_hugeLength_7cf53 57 = .ok (.ireturn, 1) := by decide +kernel
theorem dJ8_hugeLength_7cf53_58 : decode cJ8_hugeLength_7cf53 58 = .ok (.iload_n 2, 1) := by decide +kernel
theorem dJ8_hugeLength_7cf53_59 : decode cJ8_hugeLength_7cf53 59 = .ok (.ireturn, 1) := by decide +kernel
theorem dJ3_checkIndex_8e157_0 : decode cJ3_checkIndex_8e157 0 = .ok (.iload_n 0, 1) := by decide +kernel
theorem dJ3_checkIndex_8e157_1 : decode cJ3_checkIndex_8e157 1 = .ok (.ifCond .lt 8, 3) := by decide +kernel
theorem dJ3_checkIndex_8e157_4 : decode cJ3_checkIndex_8e157 4 = .ok (.iload_n 0, 1) := by decide +kernel
theorem dJ3_checkIndex_8e157_5 : decode cJ3_checkIndex_8e157 5 = .ok (.iload_n 1, 1) := by decide +kernel
theorem dJ3_checkIndex_8e157_6 : decode cJ3_checkIndex_8e157 6 = .ok (.if_icmp .lt 10, 3) := by decide +kernel
theorem dJ3_checkIndex_8e157_9 : decode cJ3_checkIndex_8e157 9 = .ok (.aload_n 2, 1) := by decide +kernel
theorem dJ3_checkIndex_8e157_10 : decode cJ3_checkIndex_8e157 10 = .ok (.iload_n 0, 1) := by decide +kernel
theorem dJ3_checkIndex_8e157_11 : decode cJ3_checkIndex_8e157 11 = .ok (.iload_n 1, 1) := by decide +kernel
theorem dJ3_checkIndex_8e157_12 : decode cJ3_checkIndex_8e157 12 = .ok (.invokestatic 95, 3) := by decide +kernel
theorem dJ3_checkIndex_8e157_15 : decode cJ3_checkIndex_8e157 15 = .ok (.athrow, 1) := by decide +kernel
theorem dJ3_checkIndex_8e157_16 : decode cJ3_checkIndex_8e157 16 = .ok (.iload_n 0, 1) := by decide +kernel
theorem dJ3_checkIndex_8e157_17 : decode cJ3_checkIndex_8e157 17 = .ok (.ireturn, 1) := by decide +kernel
theorem dL_steps_0 : decode cL_steps 0 = .ok (.aload_n 0, 1) := by decide +kernel
theorem dL_steps_1 : decode cL_steps 1 = .ok (.iload_n 1, 1) := by decide +kernel
theorem dL_steps_2 : decode cL_steps 2 = .ok (.iload_n 2, 1) := by decide +kernel
theorem dL_steps_3 : decode cL_steps 3 = .ok (.invokevirtual 7, 3) := by decide +kernel
theorem dL_steps_6 : decode cL_steps 6 = .ok (.goto 6, 3) := by decide +kernel
theorem dL_steps_9 : decode cL_steps 9 = .ok (.astore_n 3, 1) := by decide +kernel
theorem dL_steps_10 : decode cL_steps 10 = .ok (.iconst 1, 1) := by decide +kernel
theorem dL_steps_11 : decode cL_steps 11 = .ok (.ireturn, 1) := by decide +kernel
theorem dL_steps_12 : decode cL_steps 12 = .ok (.iconst 0, 1) := by decide +kernel
theorem dL_steps_13 : decode cL_steps 13 = .ok (.ireturn, 1) := by decide +kernel
theorem dL_move_0 : decode cL_move 0 = .ok (.aload_n 2, 1) := by decide +kernel
theorem dL_move_1 : decode cL_move 1 = .ok (.iconst 0, 1) := by decide +kernel
theorem dL_move_2 : decode cL_move 2 = .ok (.aload_n 0, 1) := by decide +kernel
theorem dL_move_3 : decode cL_move 3 = .ok (.iload_n 1, 1) := by decide +kernel
theorem dL_move_4 : decode cL_move 4 = .ok (.invokevirtual 15, 3) := by decide +kernel
theorem dL_move_7 : decode cL_move 7 = .ok (.lastore, 1) := by decide +kernel
theorem dL_move_8 : decode cL_move 8 = .ok (.goto 6, 3) := by decide +kernel
theorem dL_move_11 : decode cL_move 11 = .ok (.astore_n 3, 1) := by decide +kernel
theorem dL_move_12 : decode cL_move 12 = .ok (.iconst 1, 1) := by decide +kernel
theorem dL_move_13 : decode cL_move 13 = .ok (.ireturn, 1) := by decide +kernel
theorem dL_move_14 : decode cL_move 14 = .ok (.iconst 0, 1) := by decide +kernel
theorem dL_move_15 : decode cL_move 15 = .ok (.ireturn, 1) := by decide +kernel
theorem dL_dividend_0 : decode cL_dividend 0 = .ok (.aload_n 3, 1) := by decide +kernel
theorem dL_dividend_1 : decode cL_dividend 1 = .ok (.iconst 0, 1) := by decide +kernel
theorem dL_dividend_2 : decode cL_dividend 2 = .ok (.aload_n 0, 1) := by decide +kernel
theorem dL_dividend_3 : decode cL_dividend 3 = .ok (.iload_n 1, 1) := by decide +kernel
theorem dL_dividend_4 : decode cL_dividend 4 = .ok (.iload_n 2, 1) := by decide +kernel
theorem dL_dividend_5 : decode cL_dividend 5 = .ok (.invokevirtual 19, 3) := by decide +kernel
theorem dL_dividend_8 : decode cL_dividend 8 = .ok (.i2l, 1) := by decide +kernel
theorem dL_dividend_9 : decode cL_dividend 9 = .ok (.lastore, 1) := by decide +kernel
theorem dL_dividend_10 : decode cL_dividend 10 = .ok (.goto 7, 3) := by decide +kernel
theorem dL_dividend_13 : decode cL_dividend 13 = .ok (.astore 4, 2) := by decide +kernel
theorem dL_dividend_15 : decode cL_dividend 15 = .ok (.iconst 1, 1) := by decide +kernel
theorem dL_dividend_16 : decode cL_dividend 16 = .ok (.ireturn, 1) := by decide +kernel
theorem dL_dividend_17 : decode cL_dividend 17 = .ok (.iconst 0, 1) := by decide +kernel
theorem dL_dividend_18 : decode cL_dividend 18 = .ok (.ireturn, 1) := by decide +kernel
theorem dL_contract_0 : decode cL_contract 0 = .ok (.aload 5, 2) := by decide +kernel
theorem dL_contract_2 : decode cL_contract 2 = .ok (.iconst 0, 1) := by decide +kernel
theorem dL_contract_3 : decode cL_contract 3 = .ok (.aload_n 0, 1) := by decide +kernel
theorem dL_contract_4 : decode cL_contract 4 = .ok (.iload_n 1, 1) := by decide +kernel
theorem dL_contract_5 : decode cL_contract 5 = .ok (.iload_n 2, 1) := by decide +kernel
theorem dL_contract_6 : decode cL_contract 6 = .ok (.iload_n 3, 1) := by decide +kernel
theorem dL_contract_7 : decode cL_contract 7 = .ok (.iload 4, 2) := by decide +kernel
theorem dL_contract_9 : decode cL_contract 9 = .ok (.invokevirtual 23, 3) := by decide +kernel
theorem dL_contract_12 : decode cL_contract 12 = .ok (.i2l, 1) := by decide +kernel
theorem dL_contract_13 : decode cL_contract 13 = .ok (.lastore, 1) := by decide +kernel
theorem dL_contract_14 : decode cL_contract 14 = .ok (.goto 11, 3) := by decide +kernel
theorem dL_contract_17 : decode cL_contract 17 = .ok (.astore 6, 2) := by decide +kernel
theorem dL_contract_19 : decode cL_contract 19 = .ok (.iconst 1, 1) := by decide +kernel
theorem dL_contract_20 : decode cL_contract 20 = .ok (.ireturn, 1) := by decide +kernel
theorem dL_contract_21 : decode cL_contract 21 = .ok (.astore 6, 2) := by decide +kernel
theorem dL_contract_23 : decode cL_contract 23 = .ok (.iconst 2, 1) := by decide +kernel
theorem dL_contract_24 : decode cL_contract 24 = .ok (.ireturn, 1) := by decide +kernel
theorem dL_contract_25 : decode cL_contract 25 = .ok (.iconst 0, 1) := by decide +kernel
theorem dL_contract_26 : decode cL_contract 26 = .ok (.ireturn, 1) := by decide +kernel
theorem dL_quote_0 : decode cL_quote 0 = .ok (.aload 5, 2) := by decide +kernel
theorem dL_quote_2 : decode cL_quote 2 = .ok (.iconst 0, 1) := by decide +kernel
theorem dL_quote_3 : decode cL_quote 3 = .ok (.aload_n 0, 1) := by decide +kernel
theorem dL_quote_4 : decode cL_quote 4 = .ok (.iload_n 1, 1) := by decide +kernel
theorem dL_quote_5 : decode cL_quote 5 = .ok (.iload_n 2, 1) := by decide +kernel
theorem dL_quote_6 : decode cL_quote 6 = .ok (.iload_n 3, 1) := by decide +kernel
theorem dL_quote_7 : decode cL_quote 7 = .ok (.iload 4, 2) := by decide +kernel
theorem dL_quote_9 : decode cL_quote 9 = .ok (.invokevirtual 29, 3) := by decide +kernel
theorem dL_quote_12 : decode cL_quote 12 = .ok (.i2l, 1) := by decide +kernel
theorem dL_quote_13 : decode cL_quote 13 = .ok (.lastore, 1) := by decide +kernel
theorem dL_quote_14 : decode cL_quote 14 = .ok (.goto 15, 3) := by decide +kernel
theorem dL_quote_17 : decode cL_quote 17 = .ok (.astore 6, 2) := by decide +kernel
theorem dL_quote_19 : decode cL_quote 19 = .ok (.iconst 1, 1) := by decide +kernel
theorem dL_quote_20 : decode cL_quote 20 = .ok (.ireturn, 1) := by decide +kernel
theorem dL_quote_21 : decode cL_quote 21 = .ok (.astore 6, 2) := by decide +kernel
theorem dL_quote_23 : decode cL_quote 23 = .ok (.iconst 2, 1) := by decide +kernel
theorem dL_quote_24 : decode cL_quote 24 = .ok (.ireturn, 1) := by decide +kernel
theorem dL_quote_25 : decode cL_quote 25 = .ok (.astore 6, 2) := by decide +kernel
theorem dL_quote_27 : decode cL_quote 27 = .ok (.iconst 3, 1) := by decide +kernel
theorem dL_quote_28 : decode cL_quote 28 = .ok (.ireturn, 1) := by decide +kernel
theorem dL_quote_29 : decode cL_quote 29 = .ok (.iconst 0, 1) := by decide +kernel
theorem dL_quote_30 : decode cL_quote 30 = .ok (.ireturn, 1) := by decide +kernel
theorem dL_limit_0 : decode cL_limit 0 = .ok (.aload_n 2, 1) := by decide +kernel
theorem dL_limit_1 : decode cL_limit 1 = .ok (.iconst 0, 1) := by decide +kernel
theorem dL_limit_2 : decode cL_limit 2 = .ok (.aload_n 0, 1) := by decide +kernel
theorem dL_limit_3 : decode cL_limit 3 = .ok (.iload_n 1, 1) := by decide +kernel
theorem dL_limit_4 : decode cL_limit 4 = .ok (.invokevirtual 35, 3) := by decide +kernel
theorem dL_limit_7 : decode cL_limit 7 = .ok (.i2l, 1) := by decide +kernel
theorem dL_limit_8 : decode cL_limit 8 = .ok (.lastore, 1) := by decide +kernel
theorem dL_limit_9 : decode cL_limit 9 = .ok (.goto 6, 3) := by decide +kernel
theorem dL_limit_12 : decode cL_limit 12 = .ok (.astore_n 3, 1) := by decide +kernel
theorem dL_limit_13 : decode cL_limit 13 = .ok (.iconst 1, 1) := by decide +kernel
theorem dL_limit_14 : decode cL_limit 14 = .ok (.ireturn, 1) := by decide +kernel
theorem dL_limit_15 : decode cL_limit 15 = .ok (.iconst 0, 1) := by decide +kernel
theorem dL_limit_16 : decode cL_limit 16 = .ok (.ireturn, 1) := by decide +kernel
theorem dL_order_0 : decode cL_order 0 = .ok (.aload 5, 2) := by decide +kernel
theorem dL_order_2 : decode cL_order 2 = .ok (.iconst 0, 1) := by decide +kernel
theorem dL_order_3 : decode cL_order 3 = .ok (.aload_n 0, 1) := by decide +kernel
theorem dL_order_4 : decode cL_order 4 = .ok (.iload_n 1, 1) := by decide +kernel
theorem dL_order_5 : decode cL_order 5 = .ok (.iload_n 2, 1) := by decide +kernel
theorem dL_order_6 : decode cL_order 6 = .ok (.iload_n 3, 1) := by decide +kernel
theorem dL_order_7 : decode cL_order 7 = .ok (.iload 4, 2) := by decide +kernel
theorem dL_order_9 : decode cL_order 9 = .ok (.invokevirtual 39, 3) := by decide +kernel
theorem dL_order_12 : decode cL_order 12 = .ok (.i2l, 1) := by decide +kernel
theorem dL_order_13 : decode cL_order 13 = .ok (.lastore, 1) := by decide +kernel
theorem dL_order_14 : decode cL_order 14 = .ok (.goto 15, 3) := by decide +kernel
theorem dL_order_17 : decode cL_order 17 = .ok (.astore 6, 2) := by decide +kernel
theorem dL_order_19 : decode cL_order 19 = .ok (.iconst 1, 1) := by decide +kernel
theorem dL_order_20 : decode cL_order 20 = .ok (.ireturn, 1) := by decide +kernel
theorem dL_order_21 : decode cL_order 21 = .ok (.astore 6, 2) := by decide +kernel
theorem dL_order_23 : decode cL_order 23 = .ok (.iconst 2, 1) := by decide +kernel
theorem dL_order_24 : decode cL_order 24 = .ok (.ireturn, 1) := by decide +kernel
theorem dL_order_25 : decode cL_order 25 = .ok (.astore 6, 2) := by decide +kernel
theorem dL_order_27 : decode cL_order 27 = .ok (.iconst 3, 1) := by decide +kernel
theorem dL_order_28 : decode cL_order 28 = .ok (.ireturn, 1) := by decide +kernel
theorem dL_order_29 : decode cL_order 29 = .ok (.iconst 0, 1) := by decide +kernel
theorem dL_order_30 : decode cL_order 30 = .ok (.ireturn, 1) := by decide +kernel
theorem dL_hedge_0 : decode cL_hedge 0 = .ok (.aload_n 3, 1) := by decide +kernel
theorem dL_hedge_1 : decode cL_hedge 1 = .ok (.iconst 0, 1) := by decide +kernel
theorem dL_hedge_2 : decode cL_hedge 2 = .ok (.aload_n 0, 1) := by decide +kernel
theorem dL_hedge_3 : decode cL_hedge 3 = .ok (.iload_n 1, 1) := by decide +kernel
theorem dL_hedge_4 : decode cL_hedge 4 = .ok (.iload_n 2, 1) := by decide +kernel
theorem dL_hedge_5 : decode cL_hedge 5 = .ok (.invokevirtual 42, 3) := by decide +kernel
theorem dL_hedge_8 : decode cL_hedge 8 = .ok (.i2l, 1) := by decide +kernel
theorem dL_hedge_9 : decode cL_hedge 9 = .ok (.lastore, 1) := by decide +kernel
theorem dL_hedge_10 : decode cL_hedge 10 = .ok (.goto 7, 3) := by decide +kernel
theorem dL_hedge_13 : decode cL_hedge 13 = .ok (.astore 4, 2) := by decide +kernel
theorem dL_hedge_15 : decode cL_hedge 15 = .ok (.iconst 1, 1) := by decide +kernel
theorem dL_hedge_16 : decode cL_hedge 16 = .ok (.ireturn, 1) := by decide +kernel
theorem dL_hedge_17 : decode cL_hedge 17 = .ok (.iconst 0, 1) := by decide +kernel
theorem dL_hedge_18 : decode cL_hedge 18 = .ok (.ireturn, 1) := by decide +kernel
theorem dL_seed_0 : decode cL_seed 0 = .ok (.aload_n 0, 1) := by decide +kernel
theorem dL_seed_1 : decode cL_seed 1 = .ok (.iload_n 1, 1) := by decide +kernel
theorem dL_seed_2 : decode cL_seed 2 = .ok (.invokevirtual 45, 3) := by decide +kernel
theorem dL_seed_5 : decode cL_seed 5 = .ok (.goto 6, 3) := by decide +kernel
theorem dL_seed_8 : decode cL_seed 8 = .ok (.astore_n 2, 1) := by decide +kernel
theorem dL_seed_9 : decode cL_seed 9 = .ok (.iconst 1, 1) := by decide +kernel
theorem dL_seed_10 : decode cL_seed 10 = .ok (.ireturn, 1) := by decide +kernel
theorem dL_seed_11 : decode cL_seed 11 = .ok (.iconst 0, 1) := by decide +kernel
theorem dL_seed_12 : decode cL_seed 12 = .ok (.ireturn, 1) := by decide +kernel
theorem dL_exercise_0 : decode cL_exercise 0 = .ok (.aload 4, 2) := by decide +kernel
theorem dL_exercise_2 : decode cL_exercise 2 = .ok (.iconst 0, 1) := by decide +kernel
theorem dL_exercise_3 : decode cL_exercise 3 = .ok (.aload_n 0, 1) := by decide +kernel
theorem dL_exercise_4 : decode cL_exercise 4 = .ok (.iload_n 1, 1) := by decide +kernel
theorem dL_exercise_5 : decode cL_exercise 5 = .ok (.iload_n 2, 1) := by decide +kernel
theorem dL_exercise_6 : decode cL_exercise 6 = .ok (.iload_n 3, 1) := by decide +kernel
theorem dL_exercise_7 : decode cL_exercise 7 = .ok (.invokevirtual 49, 3) := by decide +kernel
theorem dL_exercise_10 : decode cL_exercise 10 = .ok (.i2l, 1) := by decide +kernel
theorem dL_exercise_11 : decode cL_exercise 11 = .ok (.lastore, 1) := by decide +kernel
theorem dL_exercise_12 : decode cL_exercise 12 = .ok (.goto 15, 3) := by decide +kernel
theorem dL_exercise_15 : decode cL_exercise 15 = .ok (.astore 5, 2) := by decide +kernel
theorem dL_exercise_17 : decode cL_exercise 17 = .ok (.iconst 1, 1) := by decide +kernel
theorem dL_exercise_18 : decode cL_exercise 18 = .ok (.ireturn, 1) := by decide +kernel
theorem dL_exercise_19 : decode cL_exercise 19 = .ok (.astore 5, 2) := by decide +kernel
theorem dL_exercise_21 : decode cL_exercise 21 = .ok (.iconst 2, 1) := by decide +kernel
theorem dL_exercise_22 : decode cL_exercise 22 = .ok (.ireturn, 1) := by decide +kernel
theorem dL_exercise_23 : decode cL_exercise 23 = .ok (.astore 5, 2) := by decide +kernel
theorem dL_exercise_25 : decode cL_exercise 25 = .ok (.iconst 3, 1) := by decide +kernel
theorem dL_exercise_26 : decode cL_exercise 26 = .ok (.ireturn, 1) := by decide +kernel
theorem dL_exercise_27 : decode cL_exercise 27 = .ok (.iconst 0, 1) := by decide +kernel
theorem dL_exercise_28 : decode cL_exercise 28 = .ok (.ireturn, 1) := by decide +kernel
theorem dL_contrary_0 : decode cL_contrary 0 = .ok (.aload 4, 2) := by decide +kernel
theorem dL_contrary_2 : decode cL_contrary 2 = .ok (.iconst 0, 1) := by decide +kernel
theorem dL_contrary_3 : decode cL_contrary 3 = .ok (.aload_n 0, 1) := by decide +kernel
theorem dL_contrary_4 : decode cL_contrary 4 = .ok (.iload_n 1, 1) := by decide +kernel
theorem dL_contrary_5 : decode cL_contrary 5 = .ok (.iload_n 2, 1) := by decide +kernel
theorem dL_contrary_6 : decode cL_contrary 6 = .ok (.iload_n 3, 1) := by decide +kernel
theorem dL_contrary_7 : decode cL_contrary 7 = .ok (.invokevirtual 53, 3) := by decide +kernel
theorem dL_contrary_10 : decode cL_contrary 10 = .ok (.ifCond .eq 7, 3) := by decide +kernel
theorem dL_contrary_13 : decode cL_contrary 13 = .ok (.lconst 1, 1) := by decide +kernel
theorem dL_contrary_14 : decode cL_contrary 14 = .ok (.goto 4, 3) := by decide +kernel
theorem dL_contrary_17 : decode cL_contrary 17 = .ok (.lconst 0, 1) := by decide +kernel
theorem dL_contrary_18 : decode cL_contrary 18 = .ok (.lastore, 1) := by decide +kernel
theorem dL_contrary_19 : decode cL_contrary 19 = .ok (.goto 11, 3) := by decide +kernel
theorem dL_contrary_22 : decode cL_contrary 22 = .ok (.astore 5, 2) := by decide +kernel
theorem dL_contrary_24 : decode cL_contrary 24 = .ok (.iconst 1, 1) := by decide +kernel
theorem dL_contrary_25 : decode cL_contrary 25 = .ok (.ireturn, 1) := by decide +kernel
theorem dL_contrary_26 : decode cL_contrary 26 = .ok (.astore 5, 2) := by decide +kernel
theorem dL_contrary_28 : decode cL_contrary 28 = .ok (.iconst 2, 1) := by decide +kernel
theorem dL_contrary_29 : decode cL_contrary 29 = .ok (.ireturn, 1) := by decide +kernel
theorem dL_contrary_30 : decode cL_contrary 30 = .ok (.iconst 0, 1) := by decide +kernel
theorem dL_contrary_31 : decode cL_contrary 31 = .ok (.ireturn, 1) := by decide +kernel
theorem dL_close_0 : decode cL_close 0 = .ok (.aload_n 1, 1) := by decide +kernel
theorem dL_close_1 : decode cL_close 1 = .ok (.iconst 0, 1) := by decide +kernel
theorem dL_close_2 : decode cL_close 2 = .ok (.aload_n 0, 1) := by decide +kernel
theorem dL_close_3 : decode cL_close 3 = .ok (.invokevirtual 57, 3) := by decide +kernel
theorem dL_close_6 : decode cL_close 6 = .ok (.i2l, 1) := by decide +kernel
theorem dL_close_7 : decode cL_close 7 = .ok (.lastore, 1) := by decide +kernel
theorem dL_close_8 : decode cL_close 8 = .ok (.goto 6, 3) := by decide +kernel
theorem dL_close_11 : decode cL_close 11 = .ok (.astore_n 2, 1) := by decide +kernel
theorem dL_close_12 : decode cL_close 12 = .ok (.iconst 1, 1) := by decide +kernel
theorem dL_close_13 : decode cL_close 13 = .ok (.ireturn, 1) := by decide +kernel
theorem dL_close_14 : decode cL_close 14 = .ok (.iconst 0, 1) := by decide +kernel
theorem dL_close_15 : decode cL_close 15 = .ok (.ireturn, 1) := by decide +kernel
theorem dL_value_0 : decode cL_value 0 = .ok (.aload_n 3, 1) := by decide +kernel
theorem dL_value_1 : decode cL_value 1 = .ok (.iconst 0, 1) := by decide +kernel
theorem dL_value_2 : decode cL_value 2 = .ok (.aload_n 0, 1) := by decide +kernel
theorem dL_value_3 : decode cL_value 3 = .ok (.iload_n 1, 1) := by decide +kernel
theorem dL_value_4 : decode cL_value 4 = .ok (.iload_n 2, 1) := by decide +kernel
theorem dL_value_5 : decode cL_value 5 = .ok (.invokevirtual 61, 3) := by decide +kernel
theorem dL_value_8 : decode cL_value 8 = .ok (.lastore, 1) := by decide +kernel
theorem dL_value_9 : decode cL_value 9 = .ok (.goto 7, 3) := by decide +kernel
theorem dL_value_12 : decode cL_value 12 = .ok (.astore 4, 2) := by decide +kernel
theorem dL_value_14 : decode cL_value 14 = .ok (.iconst 1, 1) := by decide +kernel
theorem dL_value_15 : decode cL_value 15 = .ok (.ireturn, 1) := by decide +kernel
theorem dL_value_16 : decode cL_value 16 = .ok (.iconst 0, 1) := by decide +kernel
theorem dL_value_17 : decode cL_value 17 = .ok (.ireturn, 1) := by decide +kernel
theorem dL_mark_0 : decode cL_mark 0 = .ok (.aload_n 2, 1) := by decide +kernel
theorem dL_mark_1 : decode cL_mark 1 = .ok (.iconst 0, 1) := by decide +kernel
theorem dL_mark_2 : decode cL_mark 2 = .ok (.aload_n 0, 1) := by decide +kernel
theorem dL_mark_3 : decode cL_mark 3 = .ok (.iload_n 1, 1) := by decide +kernel
theorem dL_mark_4 : decode cL_mark 4 = .ok (.invokevirtual 65, 3) := by decide +kernel
theorem dL_mark_7 : decode cL_mark 7 = .ok (.i2l, 1) := by decide +kernel
theorem dL_mark_8 : decode cL_mark 8 = .ok (.lastore, 1) := by decide +kernel
theorem dL_mark_9 : decode cL_mark 9 = .ok (.goto 6, 3) := by decide +kernel
theorem dL_mark_12 : decode cL_mark 12 = .ok (.astore_n 3, 1) := by decide +kernel
theorem dL_mark_13 : decode cL_mark 13 = .ok (.iconst 1, 1) := by decide +kernel
theorem dL_mark_14 : decode cL_mark 14 = .ok (.ireturn, 1) := by decide +kernel
theorem dL_mark_15 : decode cL_mark 15 = .ok (.iconst 0, 1) := by decide +kernel
theorem dL_mark_16 : decode cL_mark 16 = .ok (.ireturn, 1) := by decide +kernel
theorem dL_markByWays_0 : decode cL_markByWays 0 = .ok (.aload_n 2, 1) := by decide +kernel
theorem dL_markByWays_1 : decode cL_markByWays 1 = .ok (.iconst 0, 1) := by decide +kernel
theorem dL_markByWays_2 : decode cL_markByWays 2 = .ok (.aload_n 0, 1) := by decide +kernel
theorem dL_markByWays_3 : decode cL_markByWays 3 = .ok (.iload_n 1, 1) := by decide +kernel
theorem dL_markByWays_4 : decode cL_markByWays 4 = .ok (.invokevirtual 68, 3) := by decide +kernel
theorem dL_markByWays_7 : decode cL_markByWays 7 = .ok (.i2l, 1) := by decide +kernel
theorem dL_markByWays_8 : decode cL_markByWays 8 = .ok (.lastore, 1) := by decide +kernel
theorem dL_markByWays_9 : decode cL_markByWays 9 = .ok (.goto 6, 3) := by decide +kernel
theorem dL_markByWays_12 : decode cL_markByWays 12 = .ok (.astore_n 3, 1) := by decide +kernel
theorem dL_markByWays_13 : decode cL_markByWays 13 = .ok (.iconst 1, 1) := by decide +kernel
theorem dL_markByWays_14 : decode cL_markByWays 14 = .ok (.ireturn, 1) := by decide +kernel
theorem dL_markByWays_15 : decode cL_markByWays 15 = .ok (.iconst 0, 1) := by decide +kernel
theorem dL_markByWays_16 : decode cL_markByWays 16 = .ok (.ireturn, 1) := by decide +kernel
theorem dL_quoted_0 : decode cL_quoted 0 = .ok (.aload_n 3, 1) := by decide +kernel
theorem dL_quoted_1 : decode cL_quoted 1 = .ok (.iconst 0, 1) := by decide +kernel
theorem dL_quoted_2 : decode cL_quoted 2 = .ok (.aload_n 0, 1) := by decide +kernel
theorem dL_quoted_3 : decode cL_quoted 3 = .ok (.iload_n 1, 1) := by decide +kernel
theorem dL_quoted_4 : decode cL_quoted 4 = .ok (.iload_n 2, 1) := by decide +kernel
theorem dL_quoted_5 : decode cL_quoted 5 = .ok (.invokevirtual 71, 3) := by decide +kernel
theorem dL_quoted_8 : decode cL_quoted 8 = .ok (.i2l, 1) := by decide +kernel
theorem dL_quoted_9 : decode cL_quoted 9 = .ok (.lastore, 1) := by decide +kernel
theorem dL_quoted_10 : decode cL_quoted 10 = .ok (.goto 11, 3) := by decide +kernel
theorem dL_quoted_13 : decode cL_quoted 13 = .ok (.astore 4, 2) := by decide +kernel
theorem dL_quoted_15 : decode cL_quoted 15 = .ok (.iconst 1, 1) := by decide +kernel
theorem dL_quoted_16 : decode cL_quoted 16 = .ok (.ireturn, 1) := by decide +kernel
theorem dL_quoted_17 : decode cL_quoted 17 = .ok (.astore 4, 2) := by decide +kernel
theorem dL_quoted_19 : decode cL_quoted 19 = .ok (.iconst 2, 1) := by decide +kernel
theorem dL_quoted_20 : decode cL_quoted 20 = .ok (.ireturn, 1) := by decide +kernel
theorem dL_quoted_21 : decode cL_quoted 21 = .ok (.iconst 0, 1) := by decide +kernel
theorem dL_quoted_22 : decode cL_quoted 22 = .ok (.ireturn, 1) := by decide +kernel
theorem dL_lots_0 : decode cL_lots 0 = .ok (.aload_n 3, 1) := by decide +kernel
theorem dL_lots_1 : decode cL_lots 1 = .ok (.iconst 0, 1) := by decide +kernel
theorem dL_lots_2 : decode cL_lots 2 = .ok (.aload_n 0, 1) := by decide +kernel
theorem dL_lots_3 : decode cL_lots 3 = .ok (.iload_n 1, 1) := by decide +kernel
theorem dL_lots_4 : decode cL_lots 4 = .ok (.iload_n 2, 1) := by decide +kernel
theorem dL_lots_5 : decode cL_lots 5 = .ok (.invokevirtual 74, 3) := by decide +kernel
theorem dL_lots_8 : decode cL_lots 8 = .ok (.i2l, 1) := by decide +kernel
theorem dL_lots_9 : decode cL_lots 9 = .ok (.lastore, 1) := by decide +kernel
theorem dL_lots_10 : decode cL_lots 10 = .ok (.goto 7, 3) := by decide +kernel
theorem dL_lots_13 : decode cL_lots 13 = .ok (.astore 4, 2) := by decide +kernel
theorem dL_lots_15 : decode cL_lots 15 = .ok (.iconst 1, 1) := by decide +kernel
theorem dL_lots_16 : decode cL_lots 16 = .ok (.ireturn, 1) := by decide +kernel
theorem dL_lots_17 : decode cL_lots 17 = .ok (.iconst 0, 1) := by decide +kernel
theorem dL_lots_18 : decode cL_lots 18 = .ok (.ireturn, 1) := by decide +kernel
theorem dL_cash_0 : decode cL_cash 0 = .ok (.aload_n 2, 1) := by decide +kernel
theorem dL_cash_1 : decode cL_cash 1 = .ok (.iconst 0, 1) := by decide +kernel
theorem dL_cash_2 : decode cL_cash 2 = .ok (.aload_n 0, 1) := by decide +kernel
theorem dL_cash_3 : decode cL_cash 3 = .ok (.iload_n 1, 1) := by decide +kernel
theorem dL_cash_4 : decode cL_cash 4 = .ok (.invokevirtual 77, 3) := by decide +kernel
theorem dL_cash_7 : decode cL_cash 7 = .ok (.lastore, 1) := by decide +kernel
theorem dL_cash_8 : decode cL_cash 8 = .ok (.goto 6, 3) := by decide +kernel
theorem dL_cash_11 : decode cL_cash 11 = .ok (.astore_n 3, 1) := by decide +kernel
theorem dL_cash_12 : decode cL_cash 12 = .ok (.iconst 1, 1) := by decide +kernel
theorem dL_cash_13 : decode cL_cash 13 = .ok (.ireturn, 1) := by decide +kernel
theorem dL_cash_14 : decode cL_cash 14 = .ok (.iconst 0, 1) := by decide +kernel
theorem dL_cash_15 : decode cL_cash 15 = .ok (.ireturn, 1) := by decide +kernel
theorem dL_cause_0 : decode cL_cause 0 = .ok (.aload_n 2, 1) := by decide +kernel
theorem dL_cause_1 : decode cL_cause 1 = .ok (.iconst 0, 1) := by decide +kernel
theorem dL_cause_2 : decode cL_cause 2 = .ok (.aload_n 0, 1) := by decide +kernel
theorem dL_cause_3 : decode cL_cause 3 = .ok (.iload_n 1, 1) := by decide +kernel
theorem dL_cause_4 : decode cL_cause 4 = .ok (.invokevirtual 80, 3) := by decide +kernel
theorem dL_cause_7 : decode cL_cause 7 = .ok (.lastore, 1) := by decide +kernel
theorem dL_cause_8 : decode cL_cause 8 = .ok (.goto 6, 3) := by decide +kernel
theorem dL_cause_11 : decode cL_cause 11 = .ok (.astore_n 3, 1) := by decide +kernel
theorem dL_cause_12 : decode cL_cause 12 = .ok (.iconst 1, 1) := by decide +kernel
theorem dL_cause_13 : decode cL_cause 13 = .ok (.ireturn, 1) := by decide +kernel
theorem dL_cause_14 : decode cL_cause 14 = .ok (.iconst 0, 1) := by decide +kernel
theorem dL_cause_15 : decode cL_cause 15 = .ok (.ireturn, 1) := by decide +kernel
theorem dL_worst_0 : decode cL_worst 0 = .ok (.aload_n 2, 1) := by decide +kernel
theorem dL_worst_1 : decode cL_worst 1 = .ok (.iconst 0, 1) := by decide +kernel
theorem dL_worst_2 : decode cL_worst 2 = .ok (.aload_n 0, 1) := by decide +kernel
theorem dL_worst_3 : decode cL_worst 3 = .ok (.iload_n 1, 1) := by decide +kernel
theorem dL_worst_4 : decode cL_worst 4 = .ok (.invokevirtual 83, 3) := by decide +kernel
theorem dL_worst_7 : decode cL_worst 7 = .ok (.lastore, 1) := by decide +kernel
theorem dL_worst_8 : decode cL_worst 8 = .ok (.goto 6, 3) := by decide +kernel
theorem dL_worst_11 : decode cL_worst 11 = .ok (.astore_n 3, 1) := by decide +kernel
theorem dL_worst_12 : decode cL_worst 12 = .ok (.iconst 1, 1) := by decide +kernel
theorem dL_worst_13 : decode cL_worst 13 = .ok (.ireturn, 1) := by decide +kernel
theorem dL_worst_14 : decode cL_worst 14 = .ok (.iconst 0, 1) := by decide +kernel
theorem dL_worst_15 : decode cL_worst 15 = .ok (.ireturn, 1) := by decide +kernel
theorem dL_law_0 : decode cL_law 0 = .ok (.new 8, 3) := by decide +kernel
theorem dL_law_3 : decode cL_law 3 = .ok (.dup, 1) := by decide +kernel
theorem dL_law_4 : decode cL_law 4 = .ok (.invokespecial 86, 3) := by decide +kernel
theorem dL_law_7 : decode cL_law 7 = .ok (.astore_n 1, 1) := by decide +kernel
theorem dL_law_8 : decode cL_law 8 = .ok (.new 87, 3) := by decide +kernel
theorem dL_law_11 : decode cL_law 11 = .ok (.dup, 1) := by decide +kernel
theorem dL_law_12 : decode cL_law 12 = .ok (.invokespecial 89, 3) := by decide +kernel
theorem dL_law_15 : decode cL_law 15 = .ok (.astore_n 2, 1) := by decide +kernel
theorem dL_law_16 : decode cL_law 16 = .ok (.iconst 1, 1) := by decide +kernel
theorem dL_law_17 : decode cL_law 17 = .ok (.newarray .long, 2) := by decide +kernel
theorem dL_law_19 : decode cL_law 19 = .ok (.astore_n 3, 1) := by decide +kernel
theorem dL_law_20 : decode cL_law 20 = .ok (.iconst 0, 1) := by decide +kernel
theorem dL_law_21 : decode cL_law 21 = .ok (.istore 4, 2) := by decide +kernel
theorem dL_law_23 : decode cL_law 23 = .ok (.iload 4, 2) := by decide +kernel
theorem dL_law_25 : decode cL_law 25 = .ok (.aload_n 0, 1) := by decide +kernel
theorem dL_law_26 : decode cL_law 26 = .ok (.arraylength, 1) := by decide +kernel
theorem dL_law_27 : decode cL_law 27 = .ok (.iconst 5, 1) := by decide +kernel
theorem dL_law_28 : decode cL_law 28 = .ok (.isub, 1) := by decide +kernel
theorem dL_law_29 : decode cL_law 29 = .ok (.if_icmp .gt 1507, 3) := by decide +kernel
theorem dL_law_32 : decode cL_law 32 = .ok (.aload_n 0, 1) := by decide +kernel
theorem dL_law_33 : decode cL_law 33 = .ok (.iload 4, 2) := by decide +kernel
theorem dL_law_35 : decode cL_law 35 = .ok (.iaload, 1) := by decide +kernel
theorem dL_law_36 : decode cL_law 36 = .ok (.bipush 31, 2) := by decide +kernel
theorem dL_law_38 : decode cL_law 38 = .ok (.iand, 1) := by decide +kernel
theorem dL_law_39 : decode cL_law 39 = .ok (.tableswitch 1491 0 22 #[105, 153, 208, 276, 384, 476, 489, 545, 637, 705, 741, 821, 924, 968, 1051, 1107, 1163, 1176, 1244, 1312, 1367, 1381, 1436], 105) := by decide +kernel
theorem dL_law_144 : decode cL_law 144 = .ok (.aload_n 1, 1) := by decide +kernel
theorem dL_law_145 : decode cL_law 145 = .ok (.aload_n 0, 1) := by decide +kernel
theorem dL_law_146 : decode cL_law 146 = .ok (.iload 4, 2) := by decide +kernel
theorem dL_law_148 : decode cL_law 148 = .ok (.iconst 1, 1) := by decide +kernel
theorem dL_law_149 : decode cL_law 149 = .ok (.iadd, 1) := by decide +kernel
theorem dL_law_150 : decode cL_law 150 = .ok (.iaload, 1) := by decide +kernel
theorem dL_law_151 : decode cL_law 151 = .ok (.aload_n 0, 1) := by decide +kernel
theorem dL_law_152 : decode cL_law 152 = .ok (.iload 4, 2) := by decide +kernel
theorem dL_law_154 : decode cL_law 154 = .ok (.iconst 2, 1) := by decide +kernel
theorem dL_law_155 : decode cL_law 155 = .ok (.iadd, 1) := by decide +kernel
theorem dL_law_156 : decode cL_law 156 = .ok (.iaload, 1) := by decide +kernel
theorem dL_law_157 : decode cL_law 157 = .ok (.invokestatic 90, 3) := by decide +kernel
theorem dL_law_160 : decode cL_law 160 = .ok (.istore 5, 2) := by decide +kernel
theorem dL_law_162 : decode cL_law 162 = .ok (.aload_n 2, 1) := by decide +kernel
theorem dL_law_163 : decode cL_law 163 = .ok (.aload_n 0, 1) := by decide +kernel
theorem dL_law_164 : decode cL_law 164 = .ok (.iload 4, 2) := by decide +kernel
theorem dL_law_166 : decode cL_law 166 = .ok (.iconst 1, 1) := by decide +kernel
theorem dL_law_167 : decode cL_law 167 = .ok (.iadd, 1) := by decide +kernel
theorem dL_law_168 : decode cL_law 168 = .ok (.iaload, 1) := by decide +kernel
theorem dL_law_169 : decode cL_law 169 = .ok (.aload_n 0, 1) := by decide +kernel
theorem dL_law_170 : decode cL_law 170 = .ok (.iload 4, 2) := by decide +kernel
theorem dL_law_172 : decode cL_law 172 = .ok (.iconst 2, 1) := by decide +kernel
theorem dL_law_173 : decode cL_law 173 = .ok (.iadd, 1) := by decide +kernel
theorem dL_law_174 : decode cL_law 174 = .ok (.iaload, 1) := by decide +kernel
theorem dL_law_175 : decode cL_law 175 = .ok (.invokevirtual 95, 3) := by decide +kernel
theorem dL_law_178 : decode cL_law 178 = .ok (.aload_n 2, 1) := by decide +kernel
theorem dL_law_179 : decode cL_law 179 = .ok (.invokevirtual 96, 3) := by decide +kernel
theorem dL_law_182 : decode cL_law 182 = .ok (.iload 5, 2) := by decide +kernel
theorem dL_law_184 : decode cL_law 184 = .ok (.if_icmp .eq 5, 3) := by decide +kernel
theorem dL_law_187 : decode cL_law 187 = .ok (.iconst 0, 1) := by decide +kernel
theorem dL_law_188 : decode cL_law 188 = .ok (.ireturn, 1) := by decide +kernel
theorem dL_law_189 : decode cL_law 189 = .ok (.goto 1341, 3) := by decide +kernel
theorem dL_law_192 : decode cL_law 192 = .ok (.aload_n 1, 1) := by decide +kernel
theorem dL_law_193 : decode cL_law 193 = .ok (.aload_n 0, 1) := by decide +kernel
theorem dL_law_194 : decode cL_law 194 = .ok (.iload 4, 2) := by decide +kernel
theorem dL_law_196 : decode cL_law 196 = .ok (.iconst 1, 1) := by decide +kernel
theorem dL_law_197 : decode cL_law 197 = .ok (.iadd, 1) := by decide +kernel
theorem dL_law_198 : decode cL_law 198 = .ok (.iaload, 1) := by decide +kernel
theorem dL_law_199 : decode cL_law 199 = .ok (.aload_n 3, 1) := by decide +kernel
theorem dL_law_200 : decode cL_law 200 = .ok (.invokestatic 99, 3) := by decide +kernel
theorem dL_law_203 : decode cL_law 203 = .ok (.istore 5, 2) := by decide +kernel
theorem dL_law_205 : decode cL_law 205 = .ok (.aload_n 2, 1) := by decide +kernel
theorem dL_law_206 : decode cL_law 206 = .ok (.aload_n 0, 1) := by decide +kernel
theorem dL_law_207 : decode cL_law 207 = .ok (.iload 4, 2) := by decide +kernel
theorem dL_law_209 : decode cL_law 209 = .ok (.iconst 1, 1) := by decide +kernel
theorem dL_law_210 : decode cL_law 210 = .ok (.iadd, 1) := by decide +kernel
theorem dL_law_211 : decode cL_law 211 = .ok (.iaload, 1) := by decide +kernel
theorem dL_law_212 : decode cL_law 212 = .ok (.invokevirtual 102, 3) := by decide +kernel
theorem dL_law_215 : decode cL_law 215 = .ok (.lstore 6, 2) := by decide +kernel
theorem dL_law_217 : decode cL_law 217 = .ok (.aload_n 2, 1) := by decide +kernel
theorem dL_law_218 : decode cL_law 218 = .ok (.invokevirtual 96, 3) := by decide +kernel
theorem dL_law_221 : decode cL_law 221 = .ok (.iload 5, 2) := by decide +kernel
theorem dL_law_223 : decode cL_law 223 = .ok (.if_icmp .eq 5, 3) := by decide +kernel
theorem dL_law_226 : decode cL_law 226 = .ok (.iconst 0, 1) := by decide +kernel
theorem dL_law_227 : decode cL_law 227 = .ok (.ireturn, 1) := by decide +kernel
theorem dL_law_228 : decode cL_law 228 = .ok (.iload 5, 2) := by decide +kernel
theorem dL_law_230 : decode cL_law 230 = .ok (.ifCond .ne 14, 3) := by decide +kernel
theorem dL_law_233 : decode cL_law 233 = .ok (.aload_n 3, 1) := by decide +kernel
theorem dL_law_234 : decode cL_law 234 = .ok (.iconst 0, 1) := by decide +kernel
theorem dL_law_235 : decode cL_law 235 = .ok (.laload, 1) := by decide +kernel
theorem dL_law_236 : decode cL_law 236 = .ok (.lload 6, 2) := by decide +kernel
theorem dL_law_238 : decode cL_law 238 = .ok (.lcmp, 1) := by decide +kernel
theorem dL_law_239 : decode cL_law 239 = .ok (.ifCond .eq 5, 3) := by decide +kernel
theorem dL_law_242 : decode cL_law 242 = .ok (.iconst 0, 1) := by decide +kernel
theorem dL_law_243 : decode cL_law 243 = .ok (.ireturn, 1) := by decide +kernel
theorem dL_law_244 : decode cL_law 244 = .ok (.goto 1286, 3) := by decide +kernel
theorem dL_law_247 : decode cL_law 247 = .ok (.aload_n 1, 1) := by decide +kernel
theorem dL_law_248 : decode cL_law 248 = .ok (.aload_n 0, 1) := by decide +kernel
theorem dL_law_249 : decode cL_law 249 = .ok (.iload 4, 2) := by decide +kernel
theorem dL_law_251 : decode cL_law 251 = .ok (.iconst 1, 1) := by decide +kernel
theorem dL_law_252 : decode cL_law 252 = .ok (.iadd, 1) := by decide +kernel
theorem dL_law_253 : decode cL_law 253 = .ok (.iaload, 1) := by decide +kernel
theorem dL_law_254 : decode cL_law 254 = .ok (.aload_n 0, 1) := by decide +kernel
theorem dL_law_255 : decode cL_law 255 = .ok (.iload 4, 2) := by decide +kernel
theorem dL_law_257 : decode cL_law 257 = .ok (.iconst 2, 1) := by decide +kernel
theorem dL_law_258 : decode cL_law 258 = .ok (.iadd, 1) := by decide +kernel
theorem dL_law_259 : decode cL_law 259 = .ok (.iaload, 1) := by decide +kernel
theorem dL_law_260 : decode cL_law 260 = .ok (.aload_n 3, 1) := by decide +kernel
theorem dL_law_261 : decode cL_law 261 = .ok (.invokestatic 103, 3) := by decide +kernel
theorem dL_law_264 : decode cL_law 264 = .ok (.istore 5, 2) := by decide +kernel
theorem dL_law_266 : decode cL_law 266 = .ok (.aload_n 2, 1) := by decide +kernel
theorem dL_law_267 : decode cL_law 267 = .ok (.aload_n 0, 1) := by decide +kernel
theorem dL_law_268 : decode cL_law 268 = .ok (.iload 4, 2) := by decide +kernel
theorem dL_law_270 : decode cL_law 270 = .ok (.iconst 1, 1) := by decide +kernel
theorem dL_law_271 : decode cL_law 271 = .ok (.iadd, 1) := by decide +kernel
theorem dL_law_272 : decode cL_law 272 = .ok (.iaload, 1) := by decide +kernel
theorem dL_law_273 : decode cL_law 273 = .ok (.aload_n 0, 1) := by decide +kernel
theorem dL_law_274 : decode cL_law 274 = .ok (.iload 4, 2) := by decide +kernel
theorem dL_law_276 : decode cL_law 276 = .ok (.iconst 2, 1) := by decide +kernel
theorem dL_law_277 : decode cL_law 277 = .ok (.iadd, 1) := by decide +kernel
theorem dL_law_278 : decode cL_law 278 = .ok (.iaload, 1) := by decide +kernel
theorem dL_law_279 : decode cL_law 279 = .ok (.invokevirtual 106, 3) := by decide +kernel
theorem dL_law_282 : decode cL_law 282 = .ok (.istore 6, 2) := by decide +kernel
theorem dL_law_284 : decode cL_law 284 = .ok (.aload_n 2, 1) := by decide +kernel
theorem dL_law_285 : decode cL_law 285 = .ok (.invokevirtual 96, 3) := by decide +kernel
theorem dL_law_288 : decode cL_law 288 = .ok (.iload 5, 2) := by decide +kernel
theorem dL_law_290 : decode cL_law 290 = .ok (.if_icmp .eq 5, 3) := by decide +kernel
theorem dL_law_293 : decode cL_law 293 = .ok (.iconst 0, 1) := by decide +kernel
theorem dL_law_294 : decode cL_law 294 = .ok (.ireturn, 1) := by decide +kernel
theorem dL_law_295 : decode cL_law 295 = .ok (.iload 5, 2) := by decide +kernel
theorem dL_law_297 : decode cL_law 297 = .ok (.ifCond .ne 15, 3) := by decide +kernel
theorem dL_law_300 : decode cL_law 300 = .ok (.aload_n 3, 1) := by decide +kernel
theorem dL_law_301 : decode cL_law 301 = .ok (.iconst 0, 1) := by decide +kernel
theorem dL_law_302 : decode cL_law 302 = .ok (.laload, 1) := by decide +kernel
theorem dL_law_303 : decode cL_law 303 = .ok (.iload 6, 2) := by decide +kernel
theorem dL_law_305 : decode cL_law 305 = .ok (.i2l, 1) := by decide +kernel
theorem dL_law_306 : decode cL_law 306 = .ok (.lcmp, 1) := by decide +kernel
theorem dL_law_307 : decode cL_law 307 = .ok (.ifCond .eq 5, 3) := by decide +kernel
theorem dL_law_310 : decode cL_law 310 = .ok (.iconst 0, 1) := by decide +kernel
theorem dL_law_311 : decode cL_law 311 = .ok (.ireturn, 1) := by decide +kernel
theorem dL_law_312 : decode cL_law 312 = .ok (.goto 1218, 3) := by decide +kernel
theorem dL_law_315 : decode cL_law 315 = .ok (.aload_n 1, 1) := by decide +kernel
theorem dL_law_316 : decode cL_law 316 = .ok (.aload_n 0, 1) := by decide +kernel
theorem dL_law_317 : decode cL_law 317 = .ok (.iload 4, 2) := by decide +kernel
theorem dL_law_319 : decode cL_law 319 = .ok (.iconst 1, 1) := by decide +kernel
theorem dL_law_320 : decode cL_law 320 = .ok (.iadd, 1) := by decide +kernel
theorem dL_law_321 : decode cL_law 321 = .ok (.iaload, 1) := by decide +kernel
theorem dL_law_322 : decode cL_law 322 = .ok (.aload_n 0, 1) := by decide +kernel
theorem dL_law_323 : decode cL_law 323 = .ok (.iload 4, 2) := by decide +kernel
theorem dL_law_325 : decode cL_law 325 = .ok (.iconst 2, 1) := by decide +kernel
theorem dL_law_326 : decode cL_law 326 = .ok (.iadd, 1) := by decide +kernel
theorem dL_law_327 : decode cL_law 327 = .ok (.iaload, 1) := by decide +kernel
theorem dL_law_328 : decode cL_law 328 = .ok (.aload_n 0, 1) := by decide +kernel
theorem dL_law_329 : decode cL_law 329 = .ok (.iload 4, 2) := by decide +kernel
theorem dL_law_331 : decode cL_law 331 = .ok (.iconst 3, 1) := by decide +kernel
theorem dL_law_332 : decode cL_law 332 = .ok (.iadd, 1) := by decide +kernel
theorem dL_law_333 : decode cL_law 333 = .ok (.iaload, 1) := by decide +kernel
theorem dL_law_334 : decode cL_law 334 = .ok (.aload_n 0, 1) := by decide +kernel
theorem dL_law_335 : decode cL_law 335 = .ok (.iload 4, 2) := by decide +kernel
theorem dL_law_337 : decode cL_law 337 = .ok (.iconst 4, 1) := by decide +kernel
theorem dL_law_338 : decode cL_law 338 = .ok (.iadd, 1) := by decide +kernel
theorem dL_law_339 : decode cL_law 339 = .ok (.iaload, 1) := by decide +kernel
theorem dL_law_340 : decode cL_law 340 = .ok (.ifCond .eq 7, 3) := by decide +kernel
theorem dL_law_343 : decode cL_law 343 = .ok (.iconst 1, 1) := by decide +kernel
theorem dL_law_344 : decode cL_law 344 = .ok (.goto 4, 3) := by decide +kernel
theorem dL_law_347 : decode cL_law 347 = .ok (.iconst 0, 1) := by decide +kernel
theorem dL_law_348 : decode cL_law 348 = .ok (.aload_n 3, 1) := by decide +kernel
theorem dL_law_349 : decode cL_law 349 = .ok (.invokestatic 107, 3) := by decide +kernel
theorem dL_law_352 : decode cL_law 352 = .ok (.istore 5, 2) := by decide +kernel
theorem dL_law_354 : decode cL_law 354 = .ok (.aload_n 2, 1) := by decide +kernel
theorem dL_law_355 : decode cL_law 355 = .ok (.aload_n 0, 1) := by decide +kernel
theorem dL_law_356 : decode cL_law 356 = .ok (.iload 4, 2) := by decide +kernel
theorem dL_law_358 : decode cL_law 358 = .ok (.iconst 1, 1) := by decide +kernel
theorem dL_law_359 : decode cL_law 359 = .ok (.iadd, 1) := by decide +kernel
theorem dL_law_360 : decode cL_law 360 = .ok (.iaload, 1) := by decide +kernel
theorem dL_law_361 : decode cL_law 361 = .ok (.aload_n 0, 1) := by decide +kernel
theorem dL_law_362 : decode cL_law 362 = .ok (.iload 4, 2) := by decide +kernel
theorem dL_law_364 : decode cL_law 364 = .ok (.iconst 2, 1) := by decide +kernel
theorem dL_law_365 : decode cL_law 365 = .ok (.iadd, 1) := by decide +kernel
theorem dL_law_366 : decode cL_law 366 = .ok (.iaload, 1) := by decide +kernel
theorem dL_law_367 : decode cL_law 367 = .ok (.aload_n 0, 1) := by decide +kernel
theorem dL_law_368 : decode cL_law 368 = .ok (.iload 4, 2) := by decide +kernel
theorem dL_law_370 : decode cL_law 370 = .ok (.iconst 3, 1) := by decide +kernel
theorem dL_law_371 : decode cL_law 371 = .ok (.iadd, 1) := by decide +kernel
theorem dL_law_372 : decode cL_law 372 = .ok (.iaload, 1) := by decide +kernel
theorem dL_law_373 : decode cL_law 373 = .ok (.aload_n 0, 1) := by decide +kernel
theorem dL_law_374 : decode cL_law 374 = .ok (.iload 4, 2) := by decide +kernel
theorem dL_law_376 : decode cL_law 376 = .ok (.iconst 4, 1) := by decide +kernel
theorem dL_law_377 : decode cL_law 377 = .ok (.iadd, 1) := by decide +kernel
theorem dL_law_378 : decode cL_law 378 = .ok (.iaload, 1) := by decide +kernel
theorem dL_law_379 : decode cL_law 379 = .ok (.ifCond .eq 7, 3) := by decide +kernel
theorem dL_law_382 : decode cL_law 382 = .ok (.iconst 1, 1) := by decide +kernel
theorem dL_law_383 : decode cL_law 383 = .ok (.goto 4, 3) := by decide +kernel
theorem dL_law_386 : decode cL_law 386 = .ok (.iconst 0, 1) := by decide +kernel
theorem dL_law_387 : decode cL_law 387 = .ok (.invokevirtual 110, 3) := by decide +kernel
theorem dL_law_390 : decode cL_law 390 = .ok (.istore 6, 2) := by decide +kernel
theorem dL_law_392 : decode cL_law 392 = .ok (.aload_n 2, 1) := by decide +kernel
theorem dL_law_393 : decode cL_law 393 = .ok (.invokevirtual 96, 3) := by decide +kernel
theorem dL_law_396 : decode cL_law 396 = .ok (.iload 5, 2) := by decide +kernel
theorem dL_law_398 : decode cL_law 398 = .ok (.if_icmp .eq 5, 3) := by decide +kernel
theorem dL_law_401 : decode cL_law 401 = .ok (.iconst 0, 1) := by decide +kernel
theorem dL_law_402 : decode cL_law 402 = .ok (.ireturn, 1) := by decide +kernel
theorem dL_law_403 : decode cL_law 403 = .ok (.iload 5, 2) := by decide +kernel
theorem dL_law_405 : decode cL_law 405 = .ok (.ifCond .ne 15, 3) := by decide +kernel
theorem dL_law_408 : decode cL_law 408 = .ok (.aload_n 3, 1) := by decide +kernel
theorem dL_law_409 : decode cL_law 409 = .ok (.iconst 0, 1) := by decide +kernel
theorem dL_law_410 : decode cL_law 410 = .ok (.laload, 1) := by decide +kernel
theorem dL_law_411 : decode cL_law 411 = .ok (.iload 6, 2) := by decide +kernel
theorem dL_law_413 : decode cL_law 413 = .ok (.i2l, 1) := by decide +kernel
theorem dL_law_414 : decode cL_law 414 = .ok (.lcmp, 1) := by decide +kernel
theorem dL_law_415 : decode cL_law 415 = .ok (.ifCond .eq 5, 3) := by decide +kernel
theorem dL_law_418 : decode cL_law 418 = .ok (.iconst 0, 1) := by decide +kernel
theorem dL_law_419 : decode cL_law 419 = .ok (.ireturn, 1) := by decide +kernel
theorem dL_law_420 : decode cL_law 420 = .ok (.goto 1110, 3) := by decide +kernel
theorem dL_law_423 : decode cL_law 423 = .ok (.aload_n 1, 1) := by decide +kernel
theorem dL_law_424 : decode cL_law 424 = .ok (.aload_n 0, 1) := by decide +kernel
theorem dL_law_425 : decode cL_law 425 = .ok (.iload 4, 2) := by decide +kernel
theorem dL_law_427 : decode cL_law 427 = .ok (.iconst 1, 1) := by decide +kernel
theorem dL_law_428 : decode cL_law 428 = .ok (.iadd, 1) := by decide +kernel
theorem dL_law_429 : decode cL_law 429 = .ok (.iaload, 1) := by decide +kernel
theorem dL_law_430 : decode cL_law 430 = .ok (.aload_n 0, 1) := by decide +kernel
theorem dL_law_431 : decode cL_law 431 = .ok (.iload 4, 2) := by decide +kernel
theorem dL_law_433 : decode cL_law 433 = .ok (.iconst 2, 1) := by decide +kernel
theorem dL_law_434 : decode cL_law 434 = .ok (.iadd, 1) := by decide +kernel
theorem dL_law_435 : decode cL_law 435 = .ok (.iaload, 1) := by decide +kernel
theorem dL_law_436 : decode cL_law 436 = .ok (.aload_n 0, 1) := by decide +kernel
theorem dL_law_437 : decode cL_law 437 = .ok (.iload 4, 2) := by decide +kernel
theorem dL_law_439 : decode cL_law 439 = .ok (.iconst 3, 1) := by decide +kernel
theorem dL_law_440 : decode cL_law 440 = .ok (.iadd, 1) := by decide +kernel
theorem dL_law_441 : decode cL_law 441 = .ok (.iaload, 1) := by decide +kernel
theorem dL_law_442 : decode cL_law 442 = .ok (.aload_n 0, 1) := by decide +kernel
theorem dL_law_443 : decode cL_law 443 = .ok (.iload 4, 2) := by decide +kernel
theorem dL_law_445 : decode cL_law 445 = .ok (.iconst 4, 1) := by decide +kernel
theorem dL_law_446 : decode cL_law 446 = .ok (.iadd, 1) := by decide +kernel
theorem dL_law_447 : decode cL_law 447 = .ok (.iaload, 1) := by decide +kernel
theorem dL_law_448 : decode cL_law 448 = .ok (.aload_n 3, 1) := by decide +kernel
theorem dL_law_449 : decode cL_law 449 = .ok (.invokestatic 111, 3) := by decide +kernel
theorem dL_law_452 : decode cL_law 452 = .ok (.istore 5, 2) := by decide +kernel
theorem dL_law_454 : decode cL_law 454 = .ok (.aload_n 2, 1) := by decide +kernel
theorem dL_law_455 : decode cL_law 455 = .ok (.aload_n 0, 1) := by decide +kernel
theorem dL_law_456 : decode cL_law 456 = .ok (.iload 4, 2) := by decide +kernel
theorem dL_law_458 : decode cL_law 458 = .ok (.iconst 1, 1) := by decide +kernel
theorem dL_law_459 : decode cL_law 459 = .ok (.iadd, 1) := by decide +kernel
theorem dL_law_460 : decode cL_law 460 = .ok (.iaload, 1) := by decide +kernel
theorem dL_law_461 : decode cL_law 461 = .ok (.aload_n 0, 1) := by decide +kernel
theorem dL_law_462 : decode cL_law 462 = .ok (.iload 4, 2) := by decide +kernel
theorem dL_law_464 : decode cL_law 464 = .ok (.iconst 2, 1) := by decide +kernel
theorem dL_law_465 : decode cL_law 465 = .ok (.iadd, 1) := by decide +kernel
theorem dL_law_466 : decode cL_law 466 = .ok (.iaload, 1) := by decide +kernel
theorem dL_law_467 : decode cL_law 467 = .ok (.aload_n 0, 1) := by decide +kernel
theorem dL_law_468 : decode cL_law 468 = .ok (.iload 4, 2) := by decide +kernel
theorem dL_law_470 : decode cL_law 470 = .ok (.iconst 3, 1) := by decide +kernel
theorem dL_law_471 : decode cL_law 471 = .ok (.iadd, 1) := by decide +kernel
theorem dL_law_472 : decode cL_law 472 = .ok (.iaload, 1) := by decide +kernel
theorem dL_law_473 : decode cL_law 473 = .ok (.aload_n 0, 1) := by decide +kernel
theorem dL_law_474 : decode cL_law 474 = .ok (.iload 4, 2) := by decide +kernel
theorem dL_law_476 : decode cL_law 476 = .ok (.iconst 4, 1) := by decide +kernel
theorem dL_law_477 : decode cL_law 477 = .ok (.iadd, 1) := by decide +kernel
theorem dL_law_478 : decode cL_law 478 = .ok (.iaload, 1) := by decide +kernel
theorem dL_law_479 : decode cL_law 479 = .ok (.invokevirtual 114, 3) := by decide +kernel
theorem dL_law_482 : decode cL_law 482 = .ok (.istore 6, 2) := by decide +kernel
theorem dL_law_484 : decode cL_law 484 = .ok (.aload_n 2, 1) := by decide +kernel
theorem dL_law_485 : decode cL_law 485 = .ok (.invokevirtual 96, 3) := by decide +kernel
theorem dL_law_488 : decode cL_law 488 = .ok (.iload 5, 2) := by decide +kernel
theorem dL_law_490 : decode cL_law 490 = .ok (.if_icmp .eq 5, 3) := by decide +kernel
theorem dL_law_493 : decode cL_law 493 = .ok (.iconst 0, 1) := by decide +kernel
theorem dL_law_494 : decode cL_law 494 = .ok (.ireturn, 1) := by decide +kernel
theorem dL_law_495 : decode cL_law 495 = .ok (.iload 5, 2) := by decide +kernel
theorem dL_law_497 : decode cL_law 497 = .ok (.ifCond .ne 15, 3) := by decide +kernel
theorem dL_law_500 : decode cL_law 500 = .ok (.aload_n 3, 1) := by decide +kernel
theorem dL_law_501 : decode cL_law 501 = .ok (.iconst 0, 1) := by decide +kernel
theorem dL_law_502 : decode cL_law 502 = .ok (.laload, 1) := by decide +kernel
theorem dL_law_503 : decode cL_law 503 = .ok (.iload 6, 2) := by decide +kernel
theorem dL_law_505 : decode cL_law 505 = .ok (.i2l, 1) := by decide +kernel
theorem dL_law_506 : decode cL_law 506 = .ok (.lcmp, 1) := by decide +kernel
theorem dL_law_507 : decode cL_law 507 = .ok (.ifCond .eq 5, 3) := by decide +kernel
theorem dL_law_510 : decode cL_law 510 = .ok (.iconst 0, 1) := by decide +kernel
theorem dL_law_511 : decode cL_law 511 = .ok (.ireturn, 1) := by decide +kernel
theorem dL_law_512 : decode cL_law 512 = .ok (.goto 1018, 3) := by decide +kernel
theorem dL_law_515 : decode cL_law 515 = .ok (.aload_n 1, 1) := by decide +kernel
theorem dL_law_516 : decode cL_law 516 = .ok (.invokevirtual 115, 3) := by decide +kernel
theorem dL_law_519 : decode cL_law 519 = .ok (.aload_n 2, 1) := by decide +kernel
theorem dL_law_520 : decode cL_law 520 = .ok (.invokevirtual 118, 3) := by decide +kernel
theorem dL_law_523 : decode cL_law 523 = .ok (.if_icmp .eq 1007, 3) := by decide +kernel
theorem dL_law_526 : decode cL_law 526 = .ok (.iconst 0, 1) := by decide +kernel
theorem dL_law_527 : decode cL_law 527 = .ok (.ireturn, 1) := by decide +kernel
theorem dL_law_528 : decode cL_law 528 = .ok (.aload_n 1, 1) := by decide +kernel
theorem dL_law_529 : decode cL_law 529 = .ok (.aload_n 0, 1) := by decide +kernel
theorem dL_law_530 : decode cL_law 530 = .ok (.iload 4, 2) := by decide +kernel
theorem dL_law_532 : decode cL_law 532 = .ok (.iconst 1, 1) := by decide +kernel
theorem dL_law_533 : decode cL_law 533 = .ok (.iadd, 1) := by decide +kernel
theorem dL_law_534 : decode cL_law 534 = .ok (.iaload, 1) := by decide +kernel
theorem dL_law_535 : decode cL_law 535 = .ok (.aload_n 3, 1) := by decide +kernel
theorem dL_law_536 : decode cL_law 536 = .ok (.invokestatic 119, 3) := by decide +kernel
theorem dL_law_539 : decode cL_law 539 = .ok (.istore 5, 2) := by decide +kernel
theorem dL_law_541 : decode cL_law 541 = .ok (.aload_n 2, 1) := by decide +kernel
theorem dL_law_542 : decode cL_law 542 = .ok (.aload_n 0, 1) := by decide +kernel
theorem dL_law_543 : decode cL_law 543 = .ok (.iload 4, 2) := by decide +kernel
theorem dL_law_545 : decode cL_law 545 = .ok (.iconst 1, 1) := by decide +kernel
theorem dL_law_546 : decode cL_law 546 = .ok (.iadd, 1) := by decide +kernel
theorem dL_law_547 : decode cL_law 547 = .ok (.iaload, 1) := by decide +kernel
theorem dL_law_548 : decode cL_law 548 = .ok (.invokevirtual 121, 3) := by decide +kernel
theorem dL_law_551 : decode cL_law 551 = .ok (.istore 6, 2) := by decide +kernel
theorem dL_law_553 : decode cL_law 553 = .ok (.aload_n 2, 1) := by decide +kernel
theorem dL_law_554 : decode cL_law 554 = .ok (.invokevirtual 96, 3) := by decide +kernel
theorem dL_law_557 : decode cL_law 557 = .ok (.iload 5, 2) := by decide +kernel
theorem dL_law_559 : decode cL_law 559 = .ok (.if_icmp .eq 5, 3) := by decide +kernel
theorem dL_law_562 : decode cL_law 562 = .ok (.iconst 0, 1) := by decide +kernel
theorem dL_law_563 : decode cL_law 563 = .ok (.ireturn, 1) := by decide +kernel
theorem dL_law_564 : decode cL_law 564 = .ok (.iload 5, 2) := by decide +kernel
theorem dL_law_566 : decode cL_law 566 = .ok (.ifCond .ne 15, 3) := by decide +kernel
theorem dL_law_569 : decode cL_law 569 = .ok (.aload_n 3, 1) := by decide +kernel
theorem dL_law_570 : decode cL_law 570 = .ok (.iconst 0, 1) := by decide +kernel
theorem dL_law_571 : decode cL_law 571 = .ok (.laload, 1) := by decide +kernel
theorem dL_law_572 : decode cL_law 572 = .ok (.iload 6, 2) := by decide +kernel
theorem dL_law_574 : decode cL_law 574 = .ok (.i2l, 1) := by decide +kernel
theorem dL_law_575 : decode cL_law 575 = .ok (.lcmp, 1) := by decide +kernel
theorem dL_law_576 : decode cL_law 576 = .ok (.ifCond .eq 5, 3) := by decide +kernel
theorem dL_law_579 : decode cL_law 579 = .ok (.iconst 0, 1) := by decide +kernel
theorem dL_law_580 : decode cL_law 580 = .ok (.ireturn, 1) := by decide +kernel
theorem dL_law_581 : decode cL_law 581 = .ok (.goto 949, 3) := by decide +kernel
theorem dL_law_584 : decode cL_law 584 = .ok (.aload_n 1, 1) := by decide +kernel
theorem dL_law_585 : decode cL_law 585 = .ok (.aload_n 0, 1) := by decide +kernel
theorem dL_law_586 : decode cL_law 586 = .ok (.iload 4, 2) := by decide +kernel
theorem dL_law_588 : decode cL_law 588 = .ok (.iconst 1, 1) := by decide +kernel
theorem dL_law_589 : decode cL_law 589 = .ok (.iadd, 1) := by decide +kernel
theorem dL_law_590 : decode cL_law 590 = .ok (.iaload, 1) := by decide +kernel
theorem dL_law_591 : decode cL_law 591 = .ok (.aload_n 0, 1) := by decide +kernel
theorem dL_law_592 : decode cL_law 592 = .ok (.iload 4, 2) := by decide +kernel
theorem dL_law_594 : decode cL_law 594 = .ok (.iconst 2, 1) := by decide +kernel
theorem dL_law_595 : decode cL_law 595 = .ok (.iadd, 1) := by decide +kernel
theorem dL_law_596 : decode cL_law 596 = .ok (.iaload, 1) := by decide +kernel
theorem dL_law_597 : decode cL_law 597 = .ok (.aload_n 0, 1) := by decide +kernel
theorem dL_law_598 : decode cL_law 598 = .ok (.iload 4, 2) := by decide +kernel
theorem dL_law_600 : decode cL_law 600 = .ok (.iconst 3, 1) := by decide +kernel
theorem dL_law_601 : decode cL_law 601 = .ok (.iadd, 1) := by decide +kernel
theorem dL_law_602 : decode cL_law 602 = .ok (.iaload, 1) := by decide +kernel
theorem dL_law_603 : decode cL_law 603 = .ok (.aload_n 0, 1) := by decide +kernel
theorem dL_law_604 : decode cL_law 604 = .ok (.iload 4, 2) := by decide +kernel
theorem dL_law_606 : decode cL_law 606 = .ok (.iconst 4, 1) := by decide +kernel
theorem dL_law_607 : decode cL_law 607 = .ok (.iadd, 1) := by decide +kernel
theorem dL_law_608 : decode cL_law 608 = .ok (.iaload, 1) := by decide +kernel
theorem dL_law_609 : decode cL_law 609 = .ok (.aload_n 3, 1) := by decide +kernel
theorem dL_law_610 : decode cL_law 610 = .ok (.invokestatic 122, 3) := by decide +kernel
theorem dL_law_613 : decode cL_law 613 = .ok (.istore 5, 2) := by decide +kernel
theorem dL_law_615 : decode cL_law 615 = .ok (.aload_n 2, 1) := by decide +kernel
theorem dL_law_616 : decode cL_law 616 = .ok (.aload_n 0, 1) := by decide +kernel
theorem dL_law_617 : decode cL_law 617 = .ok (.iload 4, 2) := by decide +kernel
theorem dL_law_619 : decode cL_law 619 = .ok (.iconst 1, 1) := by decide +kernel
theorem dL_law_620 : decode cL_law 620 = .ok (.iadd, 1) := by decide +kernel
theorem dL_law_621 : decode cL_law 621 = .ok (.iaload, 1) := by decide +kernel
theorem dL_law_622 : decode cL_law 622 = .ok (.aload_n 0, 1) := by decide +kernel
theorem dL_law_623 : decode cL_law 623 = .ok (.iload 4, 2) := by decide +kernel
theorem dL_law_625 : decode cL_law 625 = .ok (.iconst 2, 1) := by decide +kernel
theorem dL_law_626 : decode cL_law 626 = .ok (.iadd, 1) := by decide +kernel
theorem dL_law_627 : decode cL_law 627 = .ok (.iaload, 1) := by decide +kernel
theorem dL_law_628 : decode cL_law 628 = .ok (.aload_n 0, 1) := by decide +kernel
theorem dL_law_629 : decode cL_law 629 = .ok (.iload 4, 2) := by decide +kernel
theorem dL_law_631 : decode cL_law 631 = .ok (.iconst 3, 1) := by decide +kernel
theorem dL_law_632 : decode cL_law 632 = .ok (.iadd, 1) := by decide +kernel
theorem dL_law_633 : decode cL_law 633 = .ok (.iaload, 1) := by decide +kernel
theorem dL_law_634 : decode cL_law 634 = .ok (.aload_n 0, 1) := by decide +kernel
theorem dL_law_635 : decode cL_law 635 = .ok (.iload 4, 2) := by decide +kernel
theorem dL_law_637 : decode cL_law 637 = .ok (.iconst 4, 1) := by decide +kernel
theorem dL_law_638 : decode cL_law 638 = .ok (.iadd, 1) := by decide +kernel
theorem dL_law_639 : decode cL_law 639 = .ok (.iaload, 1) := by decide +kernel
theorem dL_law_640 : decode cL_law 640 = .ok (.invokevirtual 124, 3) := by decide +kernel
theorem dL_law_643 : decode cL_law 643 = .ok (.istore 6, 2) := by decide +kernel
theorem dL_law_645 : decode cL_law 645 = .ok (.aload_n 2, 1) := by decide +kernel
theorem dL_law_646 : decode cL_law 646 = .ok (.invokevirtual 96, 3) := by decide +kernel
theorem dL_law_649 : decode cL_law 649 = .ok (.iload 5, 2) := by decide +kernel
theorem dL_law_651 : decode cL_law 651 = .ok (.if_icmp .eq 5, 3) := by decide +kernel
theorem dL_law_654 : decode cL_law 654 = .ok (.iconst 0, 1) := by decide +kernel
theorem dL_law_655 : decode cL_law 655 = .ok (.ireturn, 1) := by decide +kernel
theorem dL_law_656 : decode cL_law 656 = .ok (.iload 5, 2) := by decide +kernel
theorem dL_law_658 : decode cL_law 658 = .ok (.ifCond .ne 15, 3) := by decide +kernel
theorem dL_law_661 : decode cL_law 661 = .ok (.aload_n 3, 1) := by decide +kernel
theorem dL_law_662 : decode cL_law 662 = .ok (.iconst 0, 1) := by decide +kernel
theorem dL_law_663 : decode cL_law 663 = .ok (.laload, 1) := by decide +kernel
theorem dL_law_664 : decode cL_law 664 = .ok (.iload 6, 2) := by decide +kernel
theorem dL_law_666 : decode cL_law 666 = .ok (.i2l, 1) := by decide +kernel
theorem dL_law_667 : decode cL_law 667 = .ok (.lcmp, 1) := by decide +kernel
theorem dL_law_668 : decode cL_law 668 = .ok (.ifCond .eq 5, 3) := by decide +kernel
theorem dL_law_671 : decode cL_law 671 = .ok (.iconst 0, 1) := by decide +kernel
theorem dL_law_672 : decode cL_law 672 = .ok (.ireturn, 1) := by decide +kernel
theorem dL_law_673 : decode cL_law 673 = .ok (.goto 857, 3) := by decide +kernel
theorem dL_law_676 : decode cL_law 676 = .ok (.aload_n 1, 1) := by decide +kernel
theorem dL_law_677 : decode cL_law 677 = .ok (.aload_n 0, 1) := by decide +kernel
theorem dL_law_678 : decode cL_law 678 = .ok (.iload 4, 2) := by decide +kernel
theorem dL_law_680 : decode cL_law 680 = .ok (.iconst 1, 1) := by decide +kernel
theorem dL_law_681 : decode cL_law 681 = .ok (.iadd, 1) := by decide +kernel
theorem dL_law_682 : decode cL_law 682 = .ok (.iaload, 1) := by decide +kernel
theorem dL_law_683 : decode cL_law 683 = .ok (.aload_n 0, 1) := by decide +kernel
theorem dL_law_684 : decode cL_law 684 = .ok (.iload 4, 2) := by decide +kernel
theorem dL_law_686 : decode cL_law 686 = .ok (.iconst 2, 1) := by decide +kernel
theorem dL_law_687 : decode cL_law 687 = .ok (.iadd, 1) := by decide +kernel
theorem dL_law_688 : decode cL_law 688 = .ok (.iaload, 1) := by decide +kernel
theorem dL_law_689 : decode cL_law 689 = .ok (.aload_n 3, 1) := by decide +kernel
theorem dL_law_690 : decode cL_law 690 = .ok (.invokestatic 125, 3) := by decide +kernel
theorem dL_law_693 : decode cL_law 693 = .ok (.istore 5, 2) := by decide +kernel
theorem dL_law_695 : decode cL_law 695 = .ok (.aload_n 2, 1) := by decide +kernel
theorem dL_law_696 : decode cL_law 696 = .ok (.aload_n 0, 1) := by decide +kernel
theorem dL_law_697 : decode cL_law 697 = .ok (.iload 4, 2) := by decide +kernel
theorem dL_law_699 : decode cL_law 699 = .ok (.iconst 1, 1) := by decide +kernel
