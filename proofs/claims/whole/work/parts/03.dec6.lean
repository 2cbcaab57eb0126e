theorem dX12_codeOf_0 : decode cX12_codeOf 0 = .ok (.iconst 0, 1) := by decide +kernel
theorem dX12_codeOf_1 : decode cX12_codeOf 1 = .ok (.iconst 3, 1) := by decide +kernel
theorem dX12_codeOf_2 : decode cX12_codeOf 2 = .ok (.iload_n 1, 1) := by decide +kernel
theorem dX12_codeOf_3 : decode cX12_codeOf 3 = .ok (.imul, 1) := by decide +kernel
theorem dX12_codeOf_4 : decode cX12_codeOf 4 = .ok (.iadd, 1) := by decide +kernel
theorem dX12_codeOf_5 : decode cX12_codeOf 5 = .ok (.istore_n 2, 1) := by decide +kernel
theorem dX12_codeOf_6 : decode cX12_codeOf 6 = .ok (.iconst 4, 1) := by decide +kernel
theorem dX12_codeOf_7 : decode cX12_codeOf 7 = .ok (.bipush 100, 2) := by decide +kernel
theorem dX12_codeOf_9 : decode cX12_codeOf 9 = .ok (.aload_n 0, 1) := by decide +kernel
theorem dX12_codeOf_10 : decode cX12_codeOf 10 = .ok (.getfield 22, 3) := by decide +kernel
theorem dX12_codeOf_13 : decode cX12_codeOf 13 = .ok (.iload_n 2, 1) := by decide +kernel
theorem dX12_codeOf_14 : decode cX12_codeOf 14 = .ok (.iaload, 1) := by decide +kernel
theorem dX12_codeOf_15 : decode cX12_codeOf 15 = .ok (.imul, 1) := by decide +kernel
theorem dX12_codeOf_16 : decode cX12_codeOf 16 = .ok (.bipush 10, 2) := by decide +kernel
theorem dX12_codeOf_18 : decode cX12_codeOf 18 = .ok (.aload_n 0, 1) := by decide +kernel
theorem dX12_codeOf_19 : decode cX12_codeOf 19 = .ok (.getfield 22, 3) := by decide +kernel
theorem dX12_codeOf_22 : decode cX12_codeOf 22 = .ok (.iload_n 2, 1) := by decide +kernel
theorem dX12_codeOf_23 : decode cX12_codeOf 23 = .ok (.iconst 1, 1) := by decide +kernel
theorem dX12_codeOf_24 : decode cX12_codeOf 24 = .ok (.iadd, 1) := by decide +kernel
theorem dX12_codeOf_25 : decode cX12_codeOf 25 = .ok (.iaload, 1) := by decide +kernel
theorem dX12_codeOf_26 : decode cX12_codeOf 26 = .ok (.imul, 1) := by decide +kernel
theorem dX12_codeOf_27 : decode cX12_codeOf 27 = .ok (.iadd, 1) := by decide +kernel
theorem dX12_codeOf_28 : decode cX12_codeOf 28 = .ok (.aload_n 0, 1) := by decide +kernel
theorem dX12_codeOf_29 : decode cX12_codeOf 29 = .ok (.getfield 22, 3) := by decide +kernel
theorem dX12_codeOf_32 : decode cX12_codeOf 32 = .ok (.iload_n 2, 1) := by decide +kernel
theorem dX12_codeOf_33 : decode cX12_codeOf 33 = .ok (.iconst 2, 1) := by decide +kernel
theorem dX12_codeOf_34 : decode cX12_codeOf 34 = .ok (.iadd, 1) := by decide +kernel
theorem dX12_codeOf_35 : decode cX12_codeOf 35 = .ok (.iaload, 1) := by decide +kernel
theorem dX12_codeOf_36 : decode cX12_codeOf 36 = .ok (.iadd, 1) := by decide +kernel
theorem dX12_codeOf_37 : decode cX12_codeOf 37 = .ok (.imul, 1) := by decide +kernel
theorem dX12_codeOf_38 : decode cX12_codeOf 38 = .ok (.aload_n 0, 1) := by decide +kernel
theorem dX12_codeOf_39 : decode cX12_codeOf 39 = .ok (.getfield 22, 3) := by decide +kernel
theorem dX12_codeOf_42 : decode cX12_codeOf 42 = .ok (.bipush 24, 2) := by decide +kernel
theorem dX12_codeOf_44 : decode cX12_codeOf 44 = .ok (.iload_n 1, 1) := by decide +kernel
theorem dX12_codeOf_45 : decode cX12_codeOf 45 = .ok (.iadd, 1) := by decide +kernel
theorem dX12_codeOf_46 : decode cX12_codeOf 46 = .ok (.iaload, 1) := by decide +kernel
theorem dX12_codeOf_47 : decode cX12_codeOf 47 = .ok (.iadd, 1) := by decide +kernel
theorem dX12_codeOf_48 : decode cX12_codeOf 48 = .ok (.ireturn, 1) := by decide +kernel
theorem dX12_goesRound_0 : decode cX12_goesRound 0 = .ok (.iconst 0, 1) := by decide +kernel
theorem dX12_goesRound_1 : decode cX12_goesRound 1 = .ok (.istore 5, 2) := by decide +kernel
theorem dX12_goesRound_3 : decode cX12_goesRound 3 = .ok (.iload 5, 2) := by decide +kernel
theorem dX12_goesRound_5 : decode cX12_goesRound 5 = .ok (.sipush 4000, 3) := by decide +kernel
theorem dX12_goesRound_8 : decode cX12_goesRound 8 = .ok (.if_icmp .ge 17, 3) := by decide +kernel
theorem dX12_goesRound_11 : decode cX12_goesRound 11 = .ok (.aload_n 0, 1) := by decide +kernel
theorem dX12_goesRound_12 : decode cX12_goesRound 12 = .ok (.getfield 54, 3) := by decide +kernel
theorem dX12_goesRound_15 : decode cX12_goesRound 15 = .ok (.iload 5, 2) := by decide +kernel
theorem dX12_goesRound_17 : decode cX12_goesRound 17 = .ok (.iconst 0, 1) := by decide +kernel
theorem dX12_goesRound_18 : decode cX12_goesRound 18 = .ok (.iastore, 1) := by decide +kernel
theorem dX12_goesRound_19 : decode cX12_goesRound 19 = .ok (.iinc 5 1, 3) := by decide +kernel
theorem dX12_goesRound_22 : decode cX12_goesRound 22 = .ok (.goto (-19), 3) := by decide +kernel
theorem dX12_goesRound_25 : decode cX12_goesRound 25 = .ok (.iconst 0, 1) := by decide +kernel
theorem dX12_goesRound_26 : decode cX12_goesRound 26 = .ok (.istore 5, 2) := by decide +kernel
theorem dX12_goesRound_28 : decode cX12_goesRound 28 = .ok (.aload_n 0, 1) := by decide +kernel
theorem dX12_goesRound_29 : decode cX12_goesRound 29 = .ok (.getfield 54, 3) := by decide +kernel
theorem dX12_goesRound_32 : decode cX12_goesRound 32 = .ok (.aload_n 0, 1) := by decide +kernel
theorem dX12_goesRound_33 : decode cX12_goesRound 33 = .ok (.iload_n 1, 1) := by decide +kernel
theorem dX12_goesRound_34 : decode cX12_goesRound 34 = .ok (.invokevirtual 236, 3) := by decide +kernel
theorem dX12_goesRound_37 : decode cX12_goesRound 37 = .ok (.iaload, 1) := by decide +kernel
theorem dX12_goesRound_38 : decode cX12_goesRound 38 = .ok (.ifCond .ne 61, 3) := by decide +kernel
theorem dX12_goesRound_41 : decode cX12_goesRound 41 = .ok (.iinc 5 1, 3) := by decide +kernel
theorem dX12_goesRound_44 : decode cX12_goesRound 44 = .ok (.aload_n 0, 1) := by decide +kernel
theorem dX12_goesRound_45 : decode cX12_goesRound 45 = .ok (.getfield 54, 3) := by decide +kernel
theorem dX12_goesRound_48 : decode cX12_goesRound 48 = .ok (.aload_n 0, 1) := by decide +kernel
theorem dX12_goesRound_49 : decode cX12_goesRound 49 = .ok (.iload_n 1, 1) := by decide +kernel
theorem dX12_goesRound_50 : decode cX12_goesRound 50 = .ok (.invokevirtual 236, 3) := by decide +kernel
theorem dX12_goesRound_53 : decode cX12_goesRound 53 = .ok (.iload 5, 2) := by decide +kernel
theorem dX12_goesRound_55 : decode cX12_goesRound 55 = .ok (.iastore, 1) := by decide +kernel
theorem dX12_goesRound_56 : decode cX12_goesRound 56 = .ok (.iconst 0, 1) := by decide +kernel
theorem dX12_goesRound_57 : decode cX12_goesRound 57 = .ok (.istore 6, 2) := by decide +kernel
theorem dX12_goesRound_59 : decode cX12_goesRound 59 = .ok (.iload 6, 2) := by decide +kernel
theorem dX12_goesRound_61 : decode cX12_goesRound 61 = .ok (.iload 4, 2) := by decide +kernel
theorem dX12_goesRound_63 : decode cX12_goesRound 63 = .ok (.if_icmp .ge 33, 3) := by decide +kernel
theorem dX12_goesRound_66 : decode cX12_goesRound 66 = .ok (.aload_n 0, 1) := by decide +kernel
theorem dX12_goesRound_67 : decode cX12_goesRound 67 = .ok (.aload_n 0, 1) := by decide +kernel
theorem dX12_goesRound_68 : decode cX12_goesRound 68 = .ok (.getfield 22, 3) := by decide +kernel
theorem dX12_goesRound_71 : decode cX12_goesRound 71 = .ok (.iload_n 1, 1) := by decide +kernel
theorem dX12_goesRound_72 : decode cX12_goesRound 72 = .ok (.aload_n 0, 1) := by decide +kernel
theorem dX12_goesRound_73 : decode cX12_goesRound 73 = .ok (.getfield 44, 3) := by decide +kernel
theorem dX12_goesRound_76 : decode cX12_goesRound 76 = .ok (.bipush 24, 2) := by decide +kernel
theorem dX12_goesRound_78 : decode cX12_goesRound 78 = .ok (.iload_n 2, 1) := by decide +kernel
theorem dX12_goesRound_79 : decode cX12_goesRound 79 = .ok (.imul, 1) := by decide +kernel
theorem dX12_goesRound_80 : decode cX12_goesRound 80 = .ok (.iload_n 3, 1) := by decide +kernel
theorem dX12_goesRound_81 : decode cX12_goesRound 81 = .ok (.iadd, 1) := by decide +kernel
theorem dX12_goesRound_82 : decode cX12_goesRound 82 = .ok (.iload 6, 2) := by decide +kernel
theorem dX12_goesRound_84 : decode cX12_goesRound 84 = .ok (.iadd, 1) := by decide +kernel
theorem dX12_goesRound_85 : decode cX12_goesRound 85 = .ok (.laload, 1) := by decide +kernel
theorem dX12_goesRound_86 : decode cX12_goesRound 86 = .ok (.l2i, 1) := by decide +kernel
theorem dX12_goesRound_87 : decode cX12_goesRound 87 = .ok (.invokevirtual 158, 3) := by decide +kernel
theorem dX12_goesRound_90 : decode cX12_goesRound 90 = .ok (.iinc 6 1, 3) := by decide +kernel
theorem dX12_goesRound_93 : decode cX12_goesRound 93 = .ok (.goto (-34), 3) := by decide +kernel
theorem dX12_goesRound_96 : decode cX12_goesRound 96 = .ok (.goto (-68), 3) := by decide +kernel
theorem dX12_goesRound_99 : decode cX12_goesRound 99 = .ok (.aload_n 0, 1) := by decide +kernel
theorem dX12_goesRound_100 : decode cX12_goesRound 100 = .ok (.aload_n 0, 1) := by decide +kernel
theorem dX12_goesRound_101 : decode cX12_goesRound 101 = .ok (.getfield 54, 3) := by decide +kernel
theorem dX12_goesRound_104 : decode cX12_goesRound 104 = .ok (.aload_n 0, 1) := by decide +kernel
theorem dX12_goesRound_105 : decode cX12_goesRound 105 = .ok (.iload_n 1, 1) := by decide +kernel
theorem dX12_goesRound_106 : decode cX12_goesRound 106 = .ok (.invokevirtual 236, 3) := by decide +kernel
theorem dX12_goesRound_109 : decode cX12_goesRound 109 = .ok (.iaload, 1) := by decide +kernel
theorem dX12_goesRound_110 : decode cX12_goesRound 110 = .ok (.iconst 1, 1) := by decide +kernel
theorem dX12_goesRound_111 : decode cX12_goesRound 111 = .ok (.isub, 1) := by decide +kernel
theorem dX12_goesRound_112 : decode cX12_goesRound 112 = .ok (.putfield 239, 3) := by decide +kernel
theorem dX12_goesRound_115 : decode cX12_goesRound 115 = .ok (.aload_n 0, 1) := by decide +kernel
theorem dX12_goesRound_116 : decode cX12_goesRound 116 = .ok (.iload 5, 2) := by decide +kernel
theorem dX12_goesRound_118 : decode cX12_goesRound 118 = .ok (.aload_n 0, 1) := by decide +kernel
theorem dX12_goesRound_119 : decode cX12_goesRound 119 = .ok (.getfield 239, 3) := by decide +kernel
theorem dX12_goesRound_122 : decode cX12_goesRound 122 = .ok (.isub, 1) := by decide +kernel
theorem dX12_goesRound_123 : decode cX12_goesRound 123 = .ok (.putfield 242, 3) := by decide +kernel
theorem dX12_goesRound_126 : decode cX12_goesRound 126 = .ok (.return_, 1) := by decide +kernel
theorem dX12_round_0 : decode cX12_round 0 = .ok (.aload_n 0, 1) := by decide +kernel
theorem dX12_round_1 : decode cX12_round 1 = .ok (.getfield 7, 3) := by decide +kernel
theorem dX12_round_4 : decode cX12_round 4 = .ok (.iconst 0, 1) := by decide +kernel
theorem dX12_round_5 : decode cX12_round 5 = .ok (.iaload, 1) := by decide +kernel
theorem dX12_round_6 : decode cX12_round 6 = .ok (.ifCond .eq 35, 3) := by decide +kernel
theorem dX12_round_9 : decode cX12_round 9 = .ok (.iload_n 1, 1) := by decide +kernel
theorem dX12_round_10 : decode cX12_round 10 = .ok (.iload_n 2, 1) := by decide +kernel
theorem dX12_round_11 : decode cX12_round 11 = .ok (.invokestatic 225, 3) := by decide +kernel
theorem dX12_round_14 : decode cX12_round 14 = .ok (.ifCond .eq 27, 3) := by decide +kernel
theorem dX12_round_17 : decode cX12_round 17 = .ok (.iload 4, 2) := by decide +kernel
theorem dX12_round_19 : decode cX12_round 19 = .ok (.i2l, 1) := by decide +kernel
theorem dX12_round_20 : decode cX12_round 20 = .ok (.lconst 1, 1) := by decide +kernel
theorem dX12_round_21 : decode cX12_round 21 = .ok (.ldc2_w 143, 3) := by decide +kernel
theorem dX12_round_24 : decode cX12_round 24 = .ok (.invokestatic 59, 3) := by decide +kernel
theorem dX12_round_27 : decode cX12_round 27 = .ok (.ifCond .eq 14, 3) := by decide +kernel
theorem dX12_round_30 : decode cX12_round 30 = .ok (.iload 5, 2) := by decide +kernel
theorem dX12_round_32 : decode cX12_round 32 = .ok (.i2l, 1) := by decide +kernel
theorem dX12_round_33 : decode cX12_round 33 = .ok (.lconst 0, 1) := by decide +kernel
theorem dX12_round_34 : decode cX12_round 34 = .ok (.lconst 1, 1) := by decide +kernel
theorem dX12_round_35 : decode cX12_round 35 = .ok (.invokestatic 59, 3) := by decide +kernel
theorem dX12_round_38 : decode cX12_round 38 = .ok (.ifCond .ne 5, 3) := by decide +kernel
theorem dX12_round_41 : decode cX12_round 41 = .ok (.iconst (-1), 1) := by decide +kernel
theorem dX12_round_42 : decode cX12_round 42 = .ok (.ireturn, 1) := by decide +kernel
theorem dX12_round_43 : decode cX12_round 43 = .ok (.aload_n 0, 1) := by decide +kernel
theorem dX12_round_44 : decode cX12_round 44 = .ok (.iload_n 1, 1) := by decide +kernel
theorem dX12_round_45 : decode cX12_round 45 = .ok (.iload_n 2, 1) := by decide +kernel
theorem dX12_round_46 : decode cX12_round 46 = .ok (.iload_n 3, 1) := by decide +kernel
theorem dX12_round_47 : decode cX12_round 47 = .ok (.iload 4, 2) := by decide +kernel
theorem dX12_round_49 : decode cX12_round 49 = .ok (.invokevirtual 228, 3) := by decide +kernel
theorem dX12_round_52 : decode cX12_round 52 = .ok (.istore 6, 2) := by decide +kernel
theorem dX12_round_54 : decode cX12_round 54 = .ok (.iload 6, 2) := by decide +kernel
theorem dX12_round_56 : decode cX12_round 56 = .ok (.ifCond .ge 6, 3) := by decide +kernel
theorem dX12_round_59 : decode cX12_round 59 = .ok (.iload 6, 2) := by decide +kernel
theorem dX12_round_61 : decode cX12_round 61 = .ok (.ireturn, 1) := by decide +kernel
theorem dX12_round_62 : decode cX12_round 62 = .ok (.aload_n 0, 1) := by decide +kernel
theorem dX12_round_63 : decode cX12_round 63 = .ok (.iload_n 1, 1) := by decide +kernel
theorem dX12_round_64 : decode cX12_round 64 = .ok (.iload_n 3, 1) := by decide +kernel
theorem dX12_round_65 : decode cX12_round 65 = .ok (.iload 4, 2) := by decide +kernel
theorem dX12_round_67 : decode cX12_round 67 = .ok (.invokevirtual 232, 3) := by decide +kernel
theorem dX12_round_70 : decode cX12_round 70 = .ok (.ifCond .ne 6, 3) := by decide +kernel
theorem dX12_round_73 : decode cX12_round 73 = .ok (.bipush (-2), 2) := by decide +kernel
theorem dX12_round_75 : decode cX12_round 75 = .ok (.ireturn, 1) := by decide +kernel
theorem dX12_round_76 : decode cX12_round 76 = .ok (.aload_n 0, 1) := by decide +kernel
theorem dX12_round_77 : decode cX12_round 77 = .ok (.invokevirtual 193, 3) := by decide +kernel
theorem dX12_round_80 : decode cX12_round 80 = .ok (.iconst 0, 1) := by decide +kernel
theorem dX12_round_81 : decode cX12_round 81 = .ok (.istore 7, 2) := by decide +kernel
theorem dX12_round_83 : decode cX12_round 83 = .ok (.iconst 1, 1) := by decide +kernel
theorem dX12_round_84 : decode cX12_round 84 = .ok (.istore 8, 2) := by decide +kernel
theorem dX12_round_86 : decode cX12_round 86 = .ok (.iconst 0, 1) := by decide +kernel
theorem dX12_round_87 : decode cX12_round 87 = .ok (.istore 9, 2) := by decide +kernel
theorem dX12_round_89 : decode cX12_round 89 = .ok (.iload 9, 2) := by decide +kernel
theorem dX12_round_91 : decode cX12_round 91 = .ok (.aload_n 0, 1) := by decide +kernel
theorem dX12_round_92 : decode cX12_round 92 = .ok (.getfield 7, 3) := by decide +kernel
theorem dX12_round_95 : decode cX12_round 95 = .ok (.iconst 0, 1) := by decide +kernel
theorem dX12_round_96 : decode cX12_round 96 = .ok (.iaload, 1) := by decide +kernel
theorem dX12_round_97 : decode cX12_round 97 = .ok (.if_icmp .ge 63, 3) := by decide +kernel
theorem dX12_round_100 : decode cX12_round 100 = .ok (.aload_n 0, 1) := by decide +kernel
theorem dX12_round_101 : decode cX12_round 101 = .ok (.iload 9, 2) := by decide +kernel
theorem dX12_round_103 : decode cX12_round 103 = .ok (.iload_n 1, 1) := by decide +kernel
theorem dX12_round_104 : decode cX12_round 104 = .ok (.iload_n 3, 1) := by decide +kernel
theorem dX12_round_105 : decode cX12_round 105 = .ok (.iload 4, 2) := by decide +kernel
theorem dX12_round_107 : decode cX12_round 107 = .ok (.invokevirtual 245, 3) := by decide +kernel
theorem dX12_round_110 : decode cX12_round 110 = .ok (.aload_n 0, 1) := by decide +kernel
theorem dX12_round_111 : decode cX12_round 111 = .ok (.getfield 239, 3) := by decide +kernel
theorem dX12_round_114 : decode cX12_round 114 = .ok (.iload 7, 2) := by decide +kernel
theorem dX12_round_116 : decode cX12_round 116 = .ok (.if_icmp .le 10, 3) := by decide +kernel
theorem dX12_round_119 : decode cX12_round 119 = .ok (.aload_n 0, 1) := by decide +kernel
theorem dX12_round_120 : decode cX12_round 120 = .ok (.getfield 239, 3) := by decide +kernel
theorem dX12_round_123 : decode cX12_round 123 = .ok (.goto 5, 3) := by decide +kernel
theorem dX12_round_126 : decode cX12_round 126 = .ok (.iload 7, 2) := by decide +kernel
theorem dX12_round_128 : decode cX12_round 128 = .ok (.istore 7, 2) := by decide +kernel
theorem dX12_round_130 : decode cX12_round 130 = .ok (.iload 8, 2) := by decide +kernel
theorem dX12_round_132 : decode cX12_round 132 = .ok (.istore 10, 2) := by decide +kernel
theorem dX12_round_134 : decode cX12_round 134 = .ok (.iload 8, 2) := by decide +kernel
theorem dX12_round_136 : decode cX12_round 136 = .ok (.aload_n 0, 1) := by decide +kernel
theorem dX12_round_137 : decode cX12_round 137 = .ok (.getfield 242, 3) := by decide +kernel
theorem dX12_round_140 : decode cX12_round 140 = .ok (.irem, 1) := by decide +kernel
theorem dX12_round_141 : decode cX12_round 141 = .ok (.ifCond .eq 13, 3) := by decide +kernel
theorem dX12_round_144 : decode cX12_round 144 = .ok (.iload 8, 2) := by decide +kernel
theorem dX12_round_146 : decode cX12_round 146 = .ok (.iload 10, 2) := by decide +kernel
theorem dX12_round_148 : decode cX12_round 148 = .ok (.iadd, 1) := by decide +kernel
theorem dX12_round_149 : decode cX12_round 149 = .ok (.istore 8, 2) := by decide +kernel
theorem dX12_round_151 : decode cX12_round 151 = .ok (.goto (-17), 3) := by decide +kernel
theorem dX12_round_154 : decode cX12_round 154 = .ok (.iinc 9 1, 3) := by decide +kernel
theorem dX12_round_157 : decode cX12_round 157 = .ok (.goto (-68), 3) := by decide +kernel
theorem dX12_round_160 : decode cX12_round 160 = .ok (.iload 5, 2) := by decide +kernel
theorem dX12_round_162 : decode cX12_round 162 = .ok (.ifCond .ne 8, 3) := by decide +kernel
theorem dX12_round_165 : decode cX12_round 165 = .ok (.iload 7, 2) := by decide +kernel
theorem dX12_round_167 : decode cX12_round 167 = .ok (.goto 5, 3) := by decide +kernel
theorem dX12_round_170 : decode cX12_round 170 = .ok (.iload 8, 2) := by decide +kernel
theorem dX12_round_172 : decode cX12_round 172 = .ok (.ireturn, 1) := by decide +kernel
theorem dX12_kinds_0 : decode cX12_kinds 0 = .ok (.iload_n 1, 1) := by decide +kernel
theorem dX12_kinds_1 : decode cX12_kinds 1 = .ok (.iload_n 2, 1) := by decide +kernel
theorem dX12_kinds_2 : decode cX12_kinds 2 = .ok (.invokestatic 225, 3) := by decide +kernel
theorem dX12_kinds_5 : decode cX12_kinds 5 = .ok (.ifCond .eq 31, 3) := by decide +kernel
theorem dX12_kinds_8 : decode cX12_kinds 8 = .ok (.iload 4, 2) := by decide +kernel
theorem dX12_kinds_10 : decode cX12_kinds 10 = .ok (.i2l, 1) := by decide +kernel
theorem dX12_kinds_11 : decode cX12_kinds 11 = .ok (.lconst 1, 1) := by decide +kernel
theorem dX12_kinds_12 : decode cX12_kinds 12 = .ok (.ldc2_w 186, 3) := by decide +kernel
theorem dX12_kinds_15 : decode cX12_kinds 15 = .ok (.invokestatic 59, 3) := by decide +kernel
theorem dX12_kinds_18 : decode cX12_kinds 18 = .ok (.ifCond .eq 18, 3) := by decide +kernel
theorem dX12_kinds_21 : decode cX12_kinds 21 = .ok (.iload 5, 2) := by decide +kernel
theorem dX12_kinds_23 : decode cX12_kinds 23 = .ok (.i2l, 1) := by decide +kernel
theorem dX12_kinds_24 : decode cX12_kinds 24 = .ok (.ldc2_w 249, 3) := by decide +kernel
theorem dX12_kinds_27 : decode cX12_kinds 27 = .ok (.ldc2_w 209, 3) := by decide +kernel
theorem dX12_kinds_30 : decode cX12_kinds 30 = .ok (.invokestatic 59, 3) := by decide +kernel
theorem dX12_kinds_33 : decode cX12_kinds 33 = .ok (.ifCond .ne 5, 3) := by decide +kernel
theorem dX12_kinds_36 : decode cX12_kinds 36 = .ok (.iconst (-1), 1) := by decide +kernel
theorem dX12_kinds_37 : decode cX12_kinds 37 = .ok (.ireturn, 1) := by decide +kernel
theorem dX12_kinds_38 : decode cX12_kinds 38 = .ok (.aload_n 0, 1) := by decide +kernel
theorem dX12_kinds_39 : decode cX12_kinds 39 = .ok (.iload_n 1, 1) := by decide +kernel
theorem dX12_kinds_40 : decode cX12_kinds 40 = .ok (.iload_n 2, 1) := by decide +kernel
theorem dX12_kinds_41 : decode cX12_kinds 41 = .ok (.iload_n 3, 1) := by decide +kernel
theorem dX12_kinds_42 : decode cX12_kinds 42 = .ok (.iconst 3, 1) := by decide +kernel
theorem dX12_kinds_43 : decode cX12_kinds 43 = .ok (.iload 4, 2) := by decide +kernel
theorem dX12_kinds_45 : decode cX12_kinds 45 = .ok (.imul, 1) := by decide +kernel
theorem dX12_kinds_46 : decode cX12_kinds 46 = .ok (.invokevirtual 228, 3) := by decide +kernel
theorem dX12_kinds_49 : decode cX12_kinds 49 = .ok (.istore 6, 2) := by decide +kernel
theorem dX12_kinds_51 : decode cX12_kinds 51 = .ok (.iload 6, 2) := by decide +kernel
theorem dX12_kinds_53 : decode cX12_kinds 53 = .ok (.ifCond .ge 6, 3) := by decide +kernel
theorem dX12_kinds_56 : decode cX12_kinds 56 = .ok (.iload 6, 2) := by decide +kernel
theorem dX12_kinds_58 : decode cX12_kinds 58 = .ok (.ireturn, 1) := by decide +kernel
theorem dX12_kinds_59 : decode cX12_kinds 59 = .ok (.bipush 62, 2) := by decide +kernel
theorem dX12_kinds_61 : decode cX12_kinds 61 = .ok (.istore 7, 2) := by decide +kernel
theorem dX12_kinds_63 : decode cX12_kinds 63 = .ok (.iconst 0, 1) := by decide +kernel
theorem dX12_kinds_64 : decode cX12_kinds 64 = .ok (.istore 8, 2) := by decide +kernel
theorem dX12_kinds_66 : decode cX12_kinds 66 = .ok (.iload 8, 2) := by decide +kernel
theorem dX12_kinds_68 : decode cX12_kinds 68 = .ok (.iload 4, 2) := by decide +kernel
theorem dX12_kinds_70 : decode cX12_kinds 70 = .ok (.if_icmp .ge 130, 3) := by decide +kernel
theorem dX12_kinds_73 : decode cX12_kinds 73 = .ok (.bipush 24, 2) := by decide +kernel
theorem dX12_kinds_75 : decode cX12_kinds 75 = .ok (.iload_n 1, 1) := by decide +kernel
theorem dX12_kinds_76 : decode cX12_kinds 76 = .ok (.imul, 1) := by decide +kernel
theorem dX12_kinds_77 : decode cX12_kinds 77 = .ok (.iload_n 3, 1) := by decide +kernel
theorem dX12_kinds_78 : decode cX12_kinds 78 = .ok (.iadd, 1) := by decide +kernel
theorem dX12_kinds_79 : decode cX12_kinds 79 = .ok (.iconst 3, 1) := by decide +kernel
theorem dX12_kinds_80 : decode cX12_kinds 80 = .ok (.iload 8, 2) := by decide +kernel
theorem dX12_kinds_82 : decode cX12_kinds 82 = .ok (.imul, 1) := by decide +kernel
theorem dX12_kinds_83 : decode cX12_kinds 83 = .ok (.iadd, 1) := by decide +kernel
theorem dX12_kinds_84 : decode cX12_kinds 84 = .ok (.istore 9, 2) := by decide +kernel
theorem dX12_kinds_86 : decode cX12_kinds 86 = .ok (.aload_n 0, 1) := by decide +kernel
theorem dX12_kinds_87 : decode cX12_kinds 87 = .ok (.getfield 44, 3) := by decide +kernel
theorem dX12_kinds_90 : decode cX12_kinds 90 = .ok (.iload 9, 2) := by decide +kernel
theorem dX12_kinds_92 : decode cX12_kinds 92 = .ok (.laload, 1) := by decide +kernel
theorem dX12_kinds_93 : decode cX12_kinds 93 = .ok (.lconst 0, 1) := by decide +kernel
theorem dX12_kinds_94 : decode cX12_kinds 94 = .ok (.ldc2_w 209, 3) := by decide +kernel
theorem dX12_kinds_97 : decode cX12_kinds 97 = .ok (.invokestatic 59, 3) := by decide +kernel
theorem dX12_kinds_100 : decode cX12_kinds 100 = .ok (.ifCond .eq 22, 3) := by decide +kernel
theorem dX12_kinds_103 : decode cX12_kinds 103 = .ok (.aload_n 0, 1) := by decide +kernel
theorem dX12_kinds_104 : decode cX12_kinds 104 = .ok (.getfield 44, 3) := by decide +kernel
theorem dX12_kinds_107 : decode cX12_kinds 107 = .ok (.iload 9, 2) := by decide +kernel
theorem dX12_kinds_109 : decode cX12_kinds 109 = .ok (.iconst 1, 1) := by decide +kernel
theorem dX12_kinds_110 : decode cX12_kinds 110 = .ok (.iadd, 1) := by decide +kernel
theorem dX12_kinds_111 : decode cX12_kinds 111 = .ok (.laload, 1) := by decide +kernel
theorem dX12_kinds_112 : decode cX12_kinds 112 = .ok (.lconst 0, 1) := by decide +kernel
theorem dX12_kinds_113 : decode cX12_kinds 113 = .ok (.ldc2_w 170, 3) := by decide +kernel
theorem dX12_kinds_116 : decode cX12_kinds 116 = .ok (.invokestatic 59, 3) := by decide +kernel
theorem dX12_kinds_119 : decode cX12_kinds 119 = .ok (.ifCond .ne 6, 3) := by decide +kernel
theorem dX12_kinds_122 : decode cX12_kinds 122 = .ok (.bipush (-2), 2) := by decide +kernel
theorem dX12_kinds_124 : decode cX12_kinds 124 = .ok (.ireturn, 1) := by decide +kernel
theorem dX12_kinds_125 : decode cX12_kinds 125 = .ok (.iconst 1, 1) := by decide +kernel
theorem dX12_kinds_126 : decode cX12_kinds 126 = .ok (.istore 10, 2) := by decide +kernel
theorem dX12_kinds_128 : decode cX12_kinds 128 = .ok (.iload 10, 2) := by decide +kernel
theorem dX12_kinds_130 : decode cX12_kinds 130 = .ok (.bipush 6, 2) := by decide +kernel
theorem dX12_kinds_132 : decode cX12_kinds 132 = .ok (.if_icmp .ge 62, 3) := by decide +kernel
theorem dX12_kinds_135 : decode cX12_kinds 135 = .ok (.iload 7, 2) := by decide +kernel
theorem dX12_kinds_137 : decode cX12_kinds 137 = .ok (.iload 10, 2) := by decide +kernel
theorem dX12_kinds_139 : decode cX12_kinds 139 = .ok (.aload_n 0, 1) := by decide +kernel
theorem dX12_kinds_140 : decode cX12_kinds 140 = .ok (.getfield 44, 3) := by decide +kernel
theorem dX12_kinds_143 : decode cX12_kinds 143 = .ok (.iload 9, 2) := by decide +kernel
theorem dX12_kinds_145 : decode cX12_kinds 145 = .ok (.laload, 1) := by decide +kernel
theorem dX12_kinds_146 : decode cX12_kinds 146 = .ok (.l2i, 1) := by decide +kernel
theorem dX12_kinds_147 : decode cX12_kinds 147 = .ok (.aload_n 0, 1) := by decide +kernel
theorem dX12_kinds_148 : decode cX12_kinds 148 = .ok (.getfield 44, 3) := by decide +kernel
theorem dX12_kinds_151 : decode cX12_kinds 151 = .ok (.iload 9, 2) := by decide +kernel
theorem dX12_kinds_153 : decode cX12_kinds 153 = .ok (.iconst 1, 1) := by decide +kernel
theorem dX12_kinds_154 : decode cX12_kinds 154 = .ok (.iadd, 1) := by decide +kernel
theorem dX12_kinds_155 : decode cX12_kinds 155 = .ok (.laload, 1) := by decide +kernel
theorem dX12_kinds_156 : decode cX12_kinds 156 = .ok (.l2i, 1) := by decide +kernel
theorem dX12_kinds_157 : decode cX12_kinds 157 = .ok (.invokestatic 130, 3) := by decide +kernel
theorem dX12_kinds_160 : decode cX12_kinds 160 = .ok (.i2l, 1) := by decide +kernel
theorem dX12_kinds_161 : decode cX12_kinds 161 = .ok (.aload_n 0, 1) := by decide +kernel
theorem dX12_kinds_162 : decode cX12_kinds 162 = .ok (.getfield 44, 3) := by decide +kernel
theorem dX12_kinds_165 : decode cX12_kinds 165 = .ok (.iload 9, 2) := by decide +kernel
theorem dX12_kinds_167 : decode cX12_kinds 167 = .ok (.iconst 2, 1) := by decide +kernel
theorem dX12_kinds_168 : decode cX12_kinds 168 = .ok (.iadd, 1) := by decide +kernel
theorem dX12_kinds_169 : decode cX12_kinds 169 = .ok (.laload, 1) := by decide +kernel
theorem dX12_kinds_170 : decode cX12_kinds 170 = .ok (.lcmp, 1) := by decide +kernel
theorem dX12_kinds_171 : decode cX12_kinds 171 = .ok (.ifCond .ne 8, 3) := by decide +kernel
theorem dX12_kinds_174 : decode cX12_kinds 174 = .ok (.iload 7, 2) := by decide +kernel
theorem dX12_kinds_176 : decode cX12_kinds 176 = .ok (.goto 9, 3) := by decide +kernel
theorem dX12_kinds_179 : decode cX12_kinds 179 = .ok (.iconst 1, 1) := by decide +kernel
theorem dX12_kinds_180 : decode cX12_kinds 180 = .ok (.iload 10, 2) := by decide +kernel
theorem dX12_kinds_182 : decode cX12_kinds 182 = .ok (.ishl, 1) := by decide +kernel
theorem dX12_kinds_183 : decode cX12_kinds 183 = .ok (.iconst (-1), 1) := by decide +kernel
theorem dX12_kinds_184 : decode cX12_kinds 184 = .ok (.ixor, 1) := by decide +kernel
theorem dX12_kinds_185 : decode cX12_kinds 185 = .ok (.iand, 1) := by decide +kernel
theorem dX12_kinds_186 : decode cX12_kinds 186 = .ok (.istore 7, 2) := by decide +kernel
theorem dX12_kinds_188 : decode cX12_kinds 188 = .ok (.iinc 10 1, 3) := by decide +kernel
theorem dX12_kinds_191 : decode cX12_kinds 191 = .ok (.goto (-63), 3) := by decide +kernel
theorem dX12_kinds_194 : decode cX12_kinds 194 = .ok (.iinc 8 1, 3) := by decide +kernel
theorem dX12_kinds_197 : decode cX12_kinds 197 = .ok (.goto (-131), 3) := by decide +kernel
theorem dX12_kinds_200 : decode cX12_kinds 200 = .ok (.iload 5, 2) := by decide +kernel
theorem dX12_kinds_202 : decode cX12_kinds 202 = .ok (.ifCond .ge 8, 3) := by decide +kernel
theorem dX12_kinds_205 : decode cX12_kinds 205 = .ok (.iload 7, 2) := by decide +kernel
theorem dX12_kinds_207 : decode cX12_kinds 207 = .ok (.goto 10, 3) := by decide +kernel
theorem dX12_kinds_210 : decode cX12_kinds 210 = .ok (.iload 7, 2) := by decide +kernel
theorem dX12_kinds_212 : decode cX12_kinds 212 = .ok (.iload 5, 2) := by decide +kernel
theorem dX12_kinds_214 : decode cX12_kinds 214 = .ok (.invokestatic 251, 3) := by decide +kernel
theorem dX12_kinds_217 : decode cX12_kinds 217 = .ok (.ireturn, 1) := by decide +kernel
theorem dX12_tryOf_0 : decode cX12_tryOf 0 = .ok (.bipush (-4), 2) := by decide +kernel
theorem dX12_tryOf_2 : decode cX12_tryOf 2 = .ok (.istore_n 2, 1) := by decide +kernel
theorem dX12_tryOf_3 : decode cX12_tryOf 3 = .ok (.bipush 6, 2) := by decide +kernel
theorem dX12_tryOf_5 : decode cX12_tryOf 5 = .ok (.istore_n 3, 1) := by decide +kernel
theorem dX12_tryOf_6 : decode cX12_tryOf 6 = .ok (.iconst 1, 1) := by decide +kernel
theorem dX12_tryOf_7 : decode cX12_tryOf 7 = .ok (.istore 4, 2) := by decide +kernel
theorem dX12_tryOf_9 : decode cX12_tryOf 9 = .ok (.iload 4, 2) := by decide +kernel
theorem dX12_tryOf_11 : decode cX12_tryOf 11 = .ok (.iconst 4, 1) := by decide +kernel
theorem dX12_tryOf_12 : decode cX12_tryOf 12 = .ok (.if_icmp .ge 118, 3) := by decide +kernel
theorem dX12_tryOf_15 : decode cX12_tryOf 15 = .ok (.iload_n 0, 1) := by decide +kernel
theorem dX12_tryOf_16 : decode cX12_tryOf 16 = .ok (.ifCond .eq 114, 3) := by decide +kernel
theorem dX12_tryOf_19 : decode cX12_tryOf 19 = .ok (.iconst 0, 1) := by decide +kernel
theorem dX12_tryOf_20 : decode cX12_tryOf 20 = .ok (.istore 5, 2) := by decide +kernel
theorem dX12_tryOf_22 : decode cX12_tryOf 22 = .ok (.iconst 0, 1) := by decide +kernel
theorem dX12_tryOf_23 : decode cX12_tryOf 23 = .ok (.istore 6, 2) := by decide +kernel
theorem dX12_tryOf_25 : decode cX12_tryOf 25 = .ok (.iload 6, 2) := by decide +kernel
theorem dX12_tryOf_27 : decode cX12_tryOf 27 = .ok (.iconst 5, 1) := by decide +kernel
theorem dX12_tryOf_28 : decode cX12_tryOf 28 = .ok (.if_icmp .ge 76, 3) := by decide +kernel
theorem dX12_tryOf_31 : decode cX12_tryOf 31 = .ok (.iconst 0, 1) := by decide +kernel
theorem dX12_tryOf_32 : decode cX12_tryOf 32 = .ok (.istore 7, 2) := by decide +kernel
theorem dX12_tryOf_34 : decode cX12_tryOf 34 = .ok (.iconst 1, 1) := by decide +kernel
theorem dX12_tryOf_35 : decode cX12_tryOf 35 = .ok (.istore 8, 2) := by decide +kernel
theorem dX12_tryOf_37 : decode cX12_tryOf 37 = .ok (.iload 8, 2) := by decide +kernel
theorem dX12_tryOf_39 : decode cX12_tryOf 39 = .ok (.bipush 6, 2) := by decide +kernel
theorem dX12_tryOf_41 : decode cX12_tryOf 41 = .ok (.if_icmp .ge 41, 3) := by decide +kernel
theorem dX12_tryOf_44 : decode cX12_tryOf 44 = .ok (.iload 7, 2) := by decide +kernel
theorem dX12_tryOf_46 : decode cX12_tryOf 46 = .ok (.iload_n 0, 1) := by decide +kernel
theorem dX12_tryOf_47 : decode cX12_tryOf 47 = .ok (.iload 8, 2) := by decide +kernel
theorem dX12_tryOf_49 : decode cX12_tryOf 49 = .ok (.invokestatic 151, 3) := by decide +kernel
theorem dX12_tryOf_52 : decode cX12_tryOf 52 = .ok (.ifCond .eq 20, 3) := by decide +kernel
theorem dX12_tryOf_55 : decode cX12_tryOf 55 = .ok (.iload 8, 2) := by decide +kernel
theorem dX12_tryOf_57 : decode cX12_tryOf 57 = .ok (.iload_n 1, 1) := by decide +kernel
theorem dX12_tryOf_58 : decode cX12_tryOf 58 = .ok (.iload 4, 2) := by decide +kernel
theorem dX12_tryOf_60 : decode cX12_tryOf 60 = .ok (.invokestatic 130, 3) := by decide +kernel
theorem dX12_tryOf_63 : decode cX12_tryOf 63 = .ok (.iload 6, 2) := by decide +kernel
theorem dX12_tryOf_65 : decode cX12_tryOf 65 = .ok (.if_icmp .ne 7, 3) := by decide +kernel
theorem dX12_tryOf_68 : decode cX12_tryOf 68 = .ok (.iconst 1, 1) := by decide +kernel
theorem dX12_tryOf_69 : decode cX12_tryOf 69 = .ok (.goto 4, 3) := by decide +kernel
theorem dX12_tryOf_72 : decode cX12_tryOf 72 = .ok (.iconst 0, 1) := by decide +kernel
theorem dX12_tryOf_73 : decode cX12_tryOf 73 = .ok (.iadd, 1) := by decide +kernel
theorem dX12_tryOf_74 : decode cX12_tryOf 74 = .ok (.istore 7, 2) := by decide +kernel
theorem dX12_tryOf_76 : decode cX12_tryOf 76 = .ok (.iinc 8 1, 3) := by decide +kernel
theorem dX12_tryOf_79 : decode cX12_tryOf 79 = .ok (.goto (-42), 3) := by decide +kernel
theorem dX12_tryOf_82 : decode cX12_tryOf 82 = .ok (.iload 7, 2) := by decide +kernel
theorem dX12_tryOf_84 : decode cX12_tryOf 84 = .ok (.iload 5, 2) := by decide +kernel
theorem dX12_tryOf_86 : decode cX12_tryOf 86 = .ok (.if_icmp .le 8, 3) := by decide +kernel
theorem dX12_tryOf_89 : decode cX12_tryOf 89 = .ok (.iload 7, 2) := by decide +kernel
theorem dX12_tryOf_91 : decode cX12_tryOf 91 = .ok (.goto 5, 3) := by decide +kernel
theorem dX12_tryOf_94 : decode cX12_tryOf 94 = .ok (.iload 5, 2) := by decide +kernel
theorem dX12_tryOf_96 : decode cX12_tryOf 96 = .ok (.istore 5, 2) := by decide +kernel
theorem dX12_tryOf_98 : decode cX12_tryOf 98 = .ok (.iinc 6 1, 3) := by decide +kernel
theorem dX12_tryOf_101 : decode cX12_tryOf 101 = .ok (.goto (-76), 3) := by decide +kernel
theorem dX12_tryOf_104 : decode cX12_tryOf 104 = .ok (.iload 5, 2) := by decide +kernel
theorem dX12_tryOf_106 : decode cX12_tryOf 106 = .ok (.iload_n 3, 1) := by decide +kernel
theorem dX12_tryOf_107 : decode cX12_tryOf 107 = .ok (.if_icmp .ge 8, 3) := by decide +kernel
theorem dX12_tryOf_110 : decode cX12_tryOf 110 = .ok (.iload 4, 2) := by decide +kernel
theorem dX12_tryOf_112 : decode cX12_tryOf 112 = .ok (.goto 4, 3) := by decide +kernel
theorem dX12_tryOf_115 : decode cX12_tryOf 115 = .ok (.iload_n 2, 1) := by decide +kernel
theorem dX12_tryOf_116 : decode cX12_tryOf 116 = .ok (.istore_n 2, 1) := by decide +kernel
theorem dX12_tryOf_117 : decode cX12_tryOf 117 = .ok (.iload_n 3, 1) := by decide +kernel
theorem dX12_tryOf_118 : decode cX12_tryOf 118 = .ok (.iload 5, 2) := by decide +kernel
theorem dX12_tryOf_120 : decode cX12_tryOf 120 = .ok (.invokestatic 126, 3) := by decide +kernel
theorem dX12_tryOf_123 : decode cX12_tryOf 123 = .ok (.istore_n 3, 1) := by decide +kernel
theorem dX12_tryOf_124 : decode cX12_tryOf 124 = .ok (.iinc 4 1, 3) := by decide +kernel
theorem dX12_tryOf_127 : decode cX12_tryOf 127 = .ok (.goto (-118), 3) := by decide +kernel
theorem dX12_tryOf_130 : decode cX12_tryOf 130 = .ok (.iload_n 2, 1) := by decide +kernel
theorem dX12_tryOf_131 : decode cX12_tryOf 131 = .ok (.ireturn, 1) := by decide +kernel
theorem dX12_wishes_0 : decode cX12_wishes 0 = .ok (.aload_n 0, 1) := by decide +kernel
theorem dX12_wishes_1 : decode cX12_wishes 1 = .ok (.getfield 7, 3) := by decide +kernel
theorem dX12_wishes_4 : decode cX12_wishes 4 = .ok (.iconst 0, 1) := by decide +kernel
theorem dX12_wishes_5 : decode cX12_wishes 5 = .ok (.iaload, 1) := by decide +kernel
theorem dX12_wishes_6 : decode cX12_wishes 6 = .ok (.ifCond .eq 11, 3) := by decide +kernel
theorem dX12_wishes_9 : decode cX12_wishes 9 = .ok (.iload_n 1, 1) := by decide +kernel
theorem dX12_wishes_10 : decode cX12_wishes 10 = .ok (.iload_n 2, 1) := by decide +kernel
theorem dX12_wishes_11 : decode cX12_wishes 11 = .ok (.invokestatic 225, 3) := by decide +kernel
theorem dX12_wishes_14 : decode cX12_wishes 14 = .ok (.ifCond .ne 5, 3) := by decide +kernel
theorem dX12_wishes_17 : decode cX12_wishes 17 = .ok (.iconst (-1), 1) := by decide +kernel
theorem dX12_wishes_18 : decode cX12_wishes 18 = .ok (.ireturn, 1) := by decide +kernel
theorem dX12_wishes_19 : decode cX12_wishes 19 = .ok (.aload_n 0, 1) := by decide +kernel
theorem dX12_wishes_20 : decode cX12_wishes 20 = .ok (.iload_n 1, 1) := by decide +kernel
theorem dX12_wishes_21 : decode cX12_wishes 21 = .ok (.iload_n 2, 1) := by decide +kernel
theorem dX12_wishes_22 : decode cX12_wishes 22 = .ok (.iload_n 3, 1) := by decide +kernel
theorem dX12_wishes_23 : decode cX12_wishes 23 = .ok (.aload_n 0, 1) := by decide +kernel
theorem dX12_wishes_24 : decode cX12_wishes 24 = .ok (.getfield 7, 3) := by decide +kernel
theorem dX12_wishes_27 : decode cX12_wishes 27 = .ok (.iconst 0, 1) := by decide +kernel
theorem dX12_wishes_28 : decode cX12_wishes 28 = .ok (.iaload, 1) := by decide +kernel
theorem dX12_wishes_29 : decode cX12_wishes 29 = .ok (.invokevirtual 228, 3) := by decide +kernel
theorem dX12_wishes_32 : decode cX12_wishes 32 = .ok (.istore 4, 2) := by decide +kernel
theorem dX12_wishes_34 : decode cX12_wishes 34 = .ok (.iload 4, 2) := by decide +kernel
theorem dX12_wishes_36 : decode cX12_wishes 36 = .ok (.ifCond .ge 6, 3) := by decide +kernel
theorem dX12_wishes_39 : decode cX12_wishes 39 = .ok (.iload 4, 2) := by decide +kernel
theorem dX12_wishes_41 : decode cX12_wishes 41 = .ok (.ireturn, 1) := by decide +kernel
theorem dX12_wishes_42 : decode cX12_wishes 42 = .ok (.iconst 0, 1) := by decide +kernel
theorem dX12_wishes_43 : decode cX12_wishes 43 = .ok (.istore 5, 2) := by decide +kernel
theorem dX12_wishes_45 : decode cX12_wishes 45 = .ok (.iconst 0, 1) := by decide +kernel
theorem dX12_wishes_46 : decode cX12_wishes 46 = .ok (.istore 6, 2) := by decide +kernel
theorem dX12_wishes_48 : decode cX12_wishes 48 = .ok (.iload 6, 2) := by decide +kernel
theorem dX12_wishes_50 : decode cX12_wishes 50 = .ok (.aload_n 0, 1) := by decide +kernel
theorem dX12_wishes_51 : decode cX12_wishes 51 = .ok (.getfield 7, 3) := by decide +kernel
theorem dX12_wishes_54 : decode cX12_wishes 54 = .ok (.iconst 0, 1) := by decide +kernel
theorem dX12_wishes_55 : decode cX12_wishes 55 = .ok (.iaload, 1) := by decide +kernel
theorem dX12_wishes_56 : decode cX12_wishes 56 = .ok (.if_icmp .ge 50, 3) := by decide +kernel
theorem dX12_wishes_59 : decode cX12_wishes 59 = .ok (.iload 5, 2) := by decide +kernel
theorem dX12_wishes_61 : decode cX12_wishes 61 = .ok (.aload_n 0, 1) := by decide +kernel
theorem dX12_wishes_62 : decode cX12_wishes 62 = .ok (.getfield 19, 3) := by decide +kernel
theorem dX12_wishes_65 : decode cX12_wishes 65 = .ok (.iload 6, 2) := by decide +kernel
theorem dX12_wishes_67 : decode cX12_wishes 67 = .ok (.invokestatic 115, 3) := by decide +kernel
theorem dX12_wishes_70 : decode cX12_wishes 70 = .ok (.i2l, 1) := by decide +kernel
theorem dX12_wishes_71 : decode cX12_wishes 71 = .ok (.aload_n 0, 1) := by decide +kernel
theorem dX12_wishes_72 : decode cX12_wishes 72 = .ok (.getfield 44, 3) := by decide +kernel
theorem dX12_wishes_75 : decode cX12_wishes 75 = .ok (.bipush 24, 2) := by decide +kernel
theorem dX12_wishes_77 : decode cX12_wishes 77 = .ok (.iload_n 1, 1) := by decide +kernel
theorem dX12_wishes_78 : decode cX12_wishes 78 = .ok (.imul, 1) := by decide +kernel
theorem dX12_wishes_79 : decode cX12_wishes 79 = .ok (.iload_n 3, 1) := by decide +kernel
theorem dX12_wishes_80 : decode cX12_wishes 80 = .ok (.iadd, 1) := by decide +kernel
theorem dX12_wishes_81 : decode cX12_wishes 81 = .ok (.iload 6, 2) := by decide +kernel
theorem dX12_wishes_83 : decode cX12_wishes 83 = .ok (.iadd, 1) := by decide +kernel
theorem dX12_wishes_84 : decode cX12_wishes 84 = .ok (.laload, 1) := by decide +kernel
theorem dX12_wishes_85 : decode cX12_wishes 85 = .ok (.lcmp, 1) := by decide +kernel
theorem dX12_wishes_86 : decode cX12_wishes 86 = .ok (.ifCond .ne 10, 3) := by decide +kernel
theorem dX12_wishes_89 : decode cX12_wishes 89 = .ok (.iconst 1, 1) := by decide +kernel
theorem dX12_wishes_90 : decode cX12_wishes 90 = .ok (.iload 6, 2) := by decide +kernel
theorem dX12_wishes_92 : decode cX12_wishes 92 = .ok (.ishl, 1) := by decide +kernel
theorem dX12_wishes_93 : decode cX12_wishes 93 = .ok (.goto 4, 3) := by decide +kernel
theorem dX12_wishes_96 : decode cX12_wishes 96 = .ok (.iconst 0, 1) := by decide +kernel
theorem dX12_wishes_97 : decode cX12_wishes 97 = .ok (.ior, 1) := by decide +kernel
theorem dX12_wishes_98 : decode cX12_wishes 98 = .ok (.istore 5, 2) := by decide +kernel
theorem dX12_wishes_100 : decode cX12_wishes 100 = .ok (.iinc 6 1, 3) := by decide +kernel
theorem dX12_wishes_103 : decode cX12_wishes 103 = .ok (.goto (-55), 3) := by decide +kernel
theorem dX12_wishes_106 : decode cX12_wishes 106 = .ok (.iload 5, 2) := by decide +kernel
theorem dX12_wishes_108 : decode cX12_wishes 108 = .ok (.ireturn, 1) := by decide +kernel
theorem dX12_count_0 : decode cX12_count 0 = .ok (.iload_n 1, 1) := by decide +kernel
theorem dX12_count_1 : decode cX12_count 1 = .ok (.tableswitch 135 0 8 #[51, 51, 51, 58, 63, 72, 116, 125, 130], 51) := by decide +kernel
theorem dX12_count_52 : decode cX12_count 52 = .ok (.aload_n 0, 1) := by decide +kernel
theorem dX12_count_53 : decode cX12_count 53 = .ok (.getfield 7, 3) := by decide +kernel
theorem dX12_count_56 : decode cX12_count 56 = .ok (.iload_n 1, 1) := by decide +kernel
theorem dX12_count_57 : decode cX12_count 57 = .ok (.iaload, 1) := by decide +kernel
theorem dX12_count_58 : decode cX12_count 58 = .ok (.ireturn, 1) := by decide +kernel
theorem dX12_count_59 : decode cX12_count 59 = .ok (.aload_n 0, 1) := by decide +kernel
theorem dX12_count_60 : decode cX12_count 60 = .ok (.getfield 109, 3) := by decide +kernel
theorem dX12_count_63 : decode cX12_count 63 = .ok (.ireturn, 1) := by decide +kernel
theorem dX12_count_64 : decode cX12_count 64 = .ok (.aload_n 0, 1) := by decide +kernel
theorem dX12_count_65 : decode cX12_count 65 = .ok (.aload_n 0, 1) := by decide +kernel
theorem dX12_count_66 : decode cX12_count 66 = .ok (.getfield 19, 3) := by decide +kernel
theorem dX12_count_69 : decode cX12_count 69 = .ok (.invokevirtual 182, 3) := by decide +kernel
theorem dX12_count_72 : decode cX12_count 72 = .ok (.ireturn, 1) := by decide +kernel
theorem dX12_count_73 : decode cX12_count 73 = .ok (.iconst 0, 1) := by decide +kernel
theorem dX12_count_74 : decode cX12_count 74 = .ok (.istore_n 2, 1) := by decide +kernel
theorem dX12_count_75 : decode cX12_count 75 = .ok (.iconst 0, 1) := by decide +kernel
theorem dX12_count_76 : decode cX12_count 76 = .ok (.istore_n 3, 1) := by decide +kernel
theorem dX12_count_77 : decode cX12_count 77 = .ok (.iload_n 3, 1) := by decide +kernel
theorem dX12_count_78 : decode cX12_count 78 = .ok (.aload_n 0, 1) := by decide +kernel
theorem dX12_count_79 : decode cX12_count 79 = .ok (.getfield 7, 3) := by decide +kernel
theorem dX12_count_82 : decode cX12_count 82 = .ok (.iconst 0, 1) := by decide +kernel
theorem dX12_count_83 : decode cX12_count 83 = .ok (.iaload, 1) := by decide +kernel
theorem dX12_count_84 : decode cX12_count 84 = .ok (.if_icmp .ge 31, 3) := by decide +kernel
theorem dX12_count_87 : decode cX12_count 87 = .ok (.iload_n 2, 1) := by decide +kernel
theorem dX12_count_88 : decode cX12_count 88 = .ok (.aload_n 0, 1) := by decide +kernel
theorem dX12_count_89 : decode cX12_count 89 = .ok (.getfield 19, 3) := by decide +kernel
theorem dX12_count_92 : decode cX12_count 92 = .ok (.bipush 24, 2) := by decide +kernel
theorem dX12_count_94 : decode cX12_count 94 = .ok (.iload_n 3, 1) := by decide +kernel
theorem dX12_count_95 : decode cX12_count 95 = .ok (.iadd, 1) := by decide +kernel
theorem dX12_count_96 : decode cX12_count 96 = .ok (.iaload, 1) := by decide +kernel
theorem dX12_count_97 : decode cX12_count 97 = .ok (.ifCond .le 9, 3) := by decide +kernel
theorem dX12_count_100 : decode cX12_count 100 = .ok (.iconst 1, 1) := by decide +kernel
theorem dX12_count_101 : decode cX12_count 101 = .ok (.iload_n 3, 1) := by decide +kernel
theorem dX12_count_102 : decode cX12_count 102 = .ok (.ishl, 1) := by decide +kernel
theorem dX12_count_103 : decode cX12_count 103 = .ok (.goto 4, 3) := by decide +kernel
theorem dX12_count_106 : decode cX12_count 106 = .ok (.iconst 0, 1) := by decide +kernel
theorem dX12_count_107 : decode cX12_count 107 = .ok (.ior, 1) := by decide +kernel
theorem dX12_count_108 : decode cX12_count 108 = .ok (.istore_n 2, 1) := by decide +kernel
theorem dX12_count_109 : decode cX12_count 109 = .ok (.iinc 3 1, 3) := by decide +kernel
theorem dX12_count_112 : decode cX12_count 112 = .ok (.goto (-35), 3) := by decide +kernel
theorem dX12_count_115 : decode cX12_count 115 = .ok (.iload_n 2, 1) := by decide +kernel
theorem dX12_count_116 : decode cX12_count 116 = .ok (.ireturn, 1) := by decide +kernel
theorem dX12_count_117 : decode cX12_count 117 = .ok (.aload_n 0, 1) := by decide +kernel
theorem dX12_count_118 : decode cX12_count 118 = .ok (.aload_n 0, 1) := by decide +kernel
theorem dX12_count_119 : decode cX12_count 119 = .ok (.getfield 19, 3) := by decide +kernel
theorem dX12_count_122 : decode cX12_count 122 = .ok (.invokevirtual 222, 3) := by decide +kernel
theorem dX12_count_125 : decode cX12_count 125 = .ok (.ireturn, 1) := by decide +kernel
theorem dX12_count_126 : decode cX12_count 126 = .ok (.aload_n 0, 1) := by decide +kernel
theorem dX12_count_127 : decode cX12_count 127 = .ok (.getfield 112, 3) := by decide +kernel
theorem dX12_count_130 : decode cX12_count 130 = .ok (.ireturn, 1) := by decide +kernel
theorem dX12_count_131 : decode cX12_count 131 = .ok (.aload_n 0, 1) := by decide +kernel
theorem dX12_count_132 : decode cX12_count 132 = .ok (.getfield 63, 3) := by decide +kernel
theorem dX12_count_135 : decode cX12_count 135 = .ok (.ireturn, 1) := by decide +kernel
theorem dX12_count_136 : decode cX12_count 136 = .ok (.iconst (-1), 1) := by decide +kernel
theorem dX12_count_137 : decode cX12_count 137 = .ok (.ireturn, 1) := by decide +kernel
theorem dX12_sheet_0 : decode cX12_sheet 0 = .ok (.iload_n 1, 1) := by decide +kernel
theorem dX12_sheet_1 : decode cX12_sheet 1 = .ok (.iload_n 2, 1) := by decide +kernel
theorem dX12_sheet_2 : decode cX12_sheet 2 = .ok (.invokestatic 225, 3) := by decide +kernel
theorem dX12_sheet_5 : decode cX12_sheet 5 = .ok (.ifCond .eq 9, 3) := by decide +kernel
theorem dX12_sheet_8 : decode cX12_sheet 8 = .ok (.iload_n 3, 1) := by decide +kernel
theorem dX12_sheet_9 : decode cX12_sheet 9 = .ok (.bipush 24, 2) := by decide +kernel
theorem dX12_sheet_11 : decode cX12_sheet 11 = .ok (.if_icmp .le 5, 3) := by decide +kernel
theorem dX12_sheet_14 : decode cX12_sheet 14 = .ok (.iconst (-1), 1) := by decide +kernel
theorem dX12_sheet_15 : decode cX12_sheet 15 = .ok (.ireturn, 1) := by decide +kernel
theorem dX12_sheet_16 : decode cX12_sheet 16 = .ok (.iload_n 3, 1) := by decide +kernel
theorem dX12_sheet_17 : decode cX12_sheet 17 = .ok (.ifCond .ge 6, 3) := by decide +kernel
theorem dX12_sheet_20 : decode cX12_sheet 20 = .ok (.bipush (-14), 2) := by decide +kernel
theorem dX12_sheet_22 : decode cX12_sheet 22 = .ok (.ireturn, 1) := by decide +kernel
theorem dX12_sheet_23 : decode cX12_sheet 23 = .ok (.aload_n 0, 1) := by decide +kernel
theorem dX12_sheet_24 : decode cX12_sheet 24 = .ok (.getfield 38, 3) := by decide +kernel
theorem dX12_sheet_27 : decode cX12_sheet 27 = .ok (.iload_n 1, 1) := by decide +kernel
theorem dX12_sheet_28 : decode cX12_sheet 28 = .ok (.iload_n 3, 1) := by decide +kernel
theorem dX12_sheet_29 : decode cX12_sheet 29 = .ok (.iastore, 1) := by decide +kernel
theorem dX12_sheet_30 : decode cX12_sheet 30 = .ok (.aload_n 0, 1) := by decide +kernel
theorem dX12_sheet_31 : decode cX12_sheet 31 = .ok (.getfield 41, 3) := by decide +kernel
theorem dX12_sheet_34 : decode cX12_sheet 34 = .ok (.iload_n 1, 1) := by decide +kernel
theorem dX12_sheet_35 : decode cX12_sheet 35 = .ok (.iload_n 2, 1) := by decide +kernel
theorem dX12_sheet_36 : decode cX12_sheet 36 = .ok (.iastore, 1) := by decide +kernel
theorem dX12_sheet_37 : decode cX12_sheet 37 = .ok (.iconst 0, 1) := by decide +kernel
theorem dX12_sheet_38 : decode cX12_sheet 38 = .ok (.istore 4, 2) := by decide +kernel
theorem dX12_sheet_40 : decode cX12_sheet 40 = .ok (.iload 4, 2) := by decide +kernel
theorem dX12_sheet_42 : decode cX12_sheet 42 = .ok (.bipush 24, 2) := by decide +kernel
theorem dX12_sheet_44 : decode cX12_sheet 44 = .ok (.if_icmp .ge 22, 3) := by decide +kernel
theorem dX12_sheet_47 : decode cX12_sheet 47 = .ok (.aload_n 0, 1) := by decide +kernel
theorem dX12_sheet_48 : decode cX12_sheet 48 = .ok (.getfield 44, 3) := by decide +kernel
theorem dX12_sheet_51 : decode cX12_sheet 51 = .ok (.bipush 24, 2) := by decide +kernel
theorem dX12_sheet_53 : decode cX12_sheet 53 = .ok (.iload_n 1, 1) := by decide +kernel
theorem dX12_sheet_54 : decode cX12_sheet 54 = .ok (.imul, 1) := by decide +kernel
theorem dX12_sheet_55 : decode cX12_sheet 55 = .ok (.iload 4, 2) := by decide +kernel
theorem dX12_sheet_57 : decode cX12_sheet 57 = .ok (.iadd, 1) := by decide +kernel
theorem dX12_sheet_58 : decode cX12_sheet 58 = .ok (.lconst 0, 1) := by decide +kernel
theorem dX12_sheet_59 : decode cX12_sheet 59 = .ok (.lastore, 1) := by decide +kernel
theorem dX12_sheet_60 : decode cX12_sheet 60 = .ok (.iinc 4 1, 3) := by decide +kernel
theorem dX12_sheet_63 : decode cX12_sheet 63 = .ok (.goto (-23), 3) := by decide +kernel
theorem dX12_sheet_66 : decode cX12_sheet 66 = .ok (.iload_n 3, 1) := by decide +kernel
theorem dX12_sheet_67 : decode cX12_sheet 67 = .ok (.ireturn, 1) := by decide +kernel
theorem dX12_drop_0 : decode cX12_drop 0 = .ok (.iload_n 1, 1) := by decide +kernel
theorem dX12_drop_1 : decode cX12_drop 1 = .ok (.i2l, 1) := by decide +kernel
theorem dX12_drop_2 : decode cX12_drop 2 = .ok (.lconst 0, 1) := by decide +kernel
theorem dX12_drop_3 : decode cX12_drop 3 = .ok (.ldc2_w 170, 3) := by decide +kernel
theorem dX12_drop_6 : decode cX12_drop 6 = .ok (.invokestatic 59, 3) := by decide +kernel
theorem dX12_drop_9 : decode cX12_drop 9 = .ok (.ifCond .ne 5, 3) := by decide +kernel
theorem dX12_drop_12 : decode cX12_drop 12 = .ok (.iconst (-1), 1) := by decide +kernel
theorem dX12_drop_13 : decode cX12_drop 13 = .ok (.ireturn, 1) := by decide +kernel
theorem dX12_drop_14 : decode cX12_drop 14 = .ok (.aload_n 0, 1) := by decide +kernel
theorem dX12_drop_15 : decode cX12_drop 15 = .ok (.getfield 38, 3) := by decide +kernel
theorem dX12_drop_18 : decode cX12_drop 18 = .ok (.iload_n 1, 1) := by decide +kernel
theorem dX12_drop_19 : decode cX12_drop 19 = .ok (.iaload, 1) := by decide +kernel
theorem dX12_drop_20 : decode cX12_drop 20 = .ok (.ifCond .ge 6, 3) := by decide +kernel
theorem dX12_drop_23 : decode cX12_drop 23 = .ok (.bipush (-11), 2) := by decide +kernel
theorem dX12_drop_25 : decode cX12_drop 25 = .ok (.ireturn, 1) := by decide +kernel
theorem dX12_drop_26 : decode cX12_drop 26 = .ok (.aload_n 0, 1) := by decide +kernel
theorem dX12_drop_27 : decode cX12_drop 27 = .ok (.getfield 38, 3) := by decide +kernel
theorem dX12_drop_30 : decode cX12_drop 30 = .ok (.iload_n 1, 1) := by decide +kernel
theorem dX12_drop_31 : decode cX12_drop 31 = .ok (.iaload, 1) := by decide +kernel
theorem dX12_drop_32 : decode cX12_drop 32 = .ok (.istore_n 2, 1) := by decide +kernel
theorem dX12_drop_33 : decode cX12_drop 33 = .ok (.aload_n 0, 1) := by decide +kernel
theorem dX12_drop_34 : decode cX12_drop 34 = .ok (.getfield 38, 3) := by decide +kernel
theorem dX12_drop_37 : decode cX12_drop 37 = .ok (.iload_n 1, 1) := by decide +kernel
theorem dX12_drop_38 : decode cX12_drop 38 = .ok (.iconst (-1), 1) := by decide +kernel
theorem dX12_drop_39 : decode cX12_drop 39 = .ok (.iastore, 1) := by decide +kernel
theorem dX12_drop_40 : decode cX12_drop 40 = .ok (.iload_n 2, 1) := by decide +kernel
theorem dX12_drop_41 : decode cX12_drop 41 = .ok (.ireturn, 1) := by decide +kernel
theorem dX12_item_0 : decode cX12_item 0 = .ok (.iload_n 1, 1) := by decide +kernel
theorem dX12_item_1 : decode cX12_item 1 = .ok (.iload_n 2, 1) := by decide +kernel
theorem dX12_item_2 : decode cX12_item 2 = .ok (.invokestatic 225, 3) := by decide +kernel
theorem dX12_item_5 : decode cX12_item 5 = .ok (.ifCond .ne 7, 3) := by decide +kernel
theorem dX12_item_8 : decode cX12_item 8 = .ok (.ldc2_w 249, 3) := by decide +kernel
theorem dX12_item_11 : decode cX12_item 11 = .ok (.lreturn, 1) := by decide +kernel
theorem dX12_item_12 : decode cX12_item 12 = .ok (.aload_n 0, 1) := by decide +kernel
theorem dX12_item_13 : decode cX12_item 13 = .ok (.iload_n 1, 1) := by decide +kernel
theorem dX12_item_14 : decode cX12_item 14 = .ok (.iload_n 2, 1) := by decide +kernel
theorem dX12_item_15 : decode cX12_item 15 = .ok (.iload_n 3, 1) := by decide +kernel
theorem dX12_item_16 : decode cX12_item 16 = .ok (.iconst 1, 1) := by decide +kernel
theorem dX12_item_17 : decode cX12_item 17 = .ok (.invokevirtual 228, 3) := by decide +kernel
theorem dX12_item_20 : decode cX12_item 20 = .ok (.istore 6, 2) := by decide +kernel
theorem dX12_item_22 : decode cX12_item 22 = .ok (.iload 6, 2) := by decide +kernel
theorem dX12_item_24 : decode cX12_item 24 = .ok (.ifCond .ge 7, 3) := by decide +kernel
theorem dX12_item_27 : decode cX12_item 27 = .ok (.iload 6, 2) := by decide +kernel
theorem dX12_item_29 : decode cX12_item 29 = .ok (.i2l, 1) := by decide +kernel
theorem dX12_item_30 : decode cX12_item 30 = .ok (.lreturn, 1) := by decide +kernel
theorem dX12_item_31 : decode cX12_item 31 = .ok (.aload_n 0, 1) := by decide +kernel
theorem dX12_item_32 : decode cX12_item 32 = .ok (.getfield 44, 3) := by decide +kernel
theorem dX12_item_35 : decode cX12_item 35 = .ok (.bipush 24, 2) := by decide +kernel
theorem dX12_item_37 : decode cX12_item 37 = .ok (.iload_n 1, 1) := by decide +kernel
theorem dX12_item_38 : decode cX12_item 38 = .ok (.imul, 1) := by decide +kernel
theorem dX12_item_39 : decode cX12_item 39 = .ok (.iload_n 3, 1) := by decide +kernel
theorem dX12_item_40 : decode cX12_item 40 = .ok (.iadd, 1) := by decide +kernel
theorem dX12_item_41 : decode cX12_item 41 = .ok (.iload_n 2, 1) := by decide +kernel
theorem dX12_item_42 : decode cX12_item 42 = .ok (.lload 4, 2) := by decide +kernel
theorem dX12_item_44 : decode cX12_item 44 = .ok (.invokestatic 254, 3) := by decide +kernel
theorem dX12_item_47 : decode cX12_item 47 = .ok (.lastore, 1) := by decide +kernel
theorem dX12_item_48 : decode cX12_item 48 = .ok (.aload_n 0, 1) := by decide +kernel
theorem dX12_item_49 : decode cX12_item 49 = .ok (.getfield 44, 3) := by decide +kernel
theorem dX12_item_52 : decode cX12_item 52 = .ok (.bipush 24, 2) := by decide +kernel
theorem dX12_item_54 : decode cX12_item 54 = .ok (.iload_n 1, 1) := by decide +kernel
theorem dX12_item_55 : decode cX12_item 55 = .ok (.imul, 1) := by decide +kernel
theorem dX12_item_56 : decode cX12_item 56 = .ok (.iload_n 3, 1) := by decide +kernel
theorem dX12_item_57 : decode cX12_item 57 = .ok (.iadd, 1) := by decide +kernel
theorem dX12_item_58 : decode cX12_item 58 = .ok (.laload, 1) := by decide +kernel
theorem dX12_item_59 : decode cX12_item 59 = .ok (.lreturn, 1) := by decide +kernel
theorem dX12_copy_0 : decode cX12_copy 0 = .ok (.iload_n 1, 1) := by decide +kernel
theorem dX12_copy_1 : decode cX12_copy 1 = .ok (.i2l, 1) := by decide +kernel
theorem dX12_copy_2 : decode cX12_copy 2 = .ok (.lconst 0, 1) := by decide +kernel
theorem dX12_copy_3 : decode cX12_copy 3 = .ok (.ldc2_w 170, 3) := by decide +kernel
theorem dX12_copy_6 : decode cX12_copy 6 = .ok (.invokestatic 59, 3) := by decide +kernel
theorem dX12_copy_9 : decode cX12_copy 9 = .ok (.ifCond .eq 15, 3) := by decide +kernel
theorem dX12_copy_12 : decode cX12_copy 12 = .ok (.iload_n 3, 1) := by decide +kernel
theorem dX12_copy_13 : decode cX12_copy 13 = .ok (.i2l, 1) := by decide +kernel
theorem dX12_copy_14 : decode cX12_copy 14 = .ok (.lconst 0, 1) := by decide +kernel
theorem dX12_copy_15 : decode cX12_copy 15 = .ok (.ldc2_w 170, 3) := by decide +kernel
theorem dX12_copy_18 : decode cX12_copy 18 = .ok (.invokestatic 59, 3) := by decide +kernel
theorem dX12_copy_21 : decode cX12_copy 21 = .ok (.ifCond .ne 5, 3) := by decide +kernel
theorem dX12_copy_24 : decode cX12_copy 24 = .ok (.iconst (-1), 1) := by decide +kernel
theorem dX12_copy_25 : decode cX12_copy 25 = .ok (.ireturn, 1) := by decide +kernel
theorem dX12_copy_26 : decode cX12_copy 26 = .ok (.aload_n 0, 1) := by decide +kernel
theorem dX12_copy_27 : decode cX12_copy 27 = .ok (.getfield 38, 3) := by decide +kernel
theorem dX12_copy_30 : decode cX12_copy 30 = .ok (.iload_n 1, 1) := by decide +kernel
theorem dX12_copy_31 : decode cX12_copy 31 = .ok (.iaload, 1) := by decide +kernel
theorem dX12_copy_32 : decode cX12_copy 32 = .ok (.ifCond .lt 12, 3) := by decide +kernel
theorem dX12_copy_35 : decode cX12_copy 35 = .ok (.aload_n 0, 1) := by decide +kernel
theorem dX12_copy_36 : decode cX12_copy 36 = .ok (.getfield 38, 3) := by decide +kernel
theorem dX12_copy_39 : decode cX12_copy 39 = .ok (.iload_n 3, 1) := by decide +kernel
theorem dX12_copy_40 : decode cX12_copy 40 = .ok (.iaload, 1) := by decide +kernel
theorem dX12_copy_41 : decode cX12_copy 41 = .ok (.ifCond .ge 6, 3) := by decide +kernel
theorem dX12_copy_44 : decode cX12_copy 44 = .ok (.bipush (-11), 2) := by decide +kernel
theorem dX12_copy_46 : decode cX12_copy 46 = .ok (.ireturn, 1) := by decide +kernel
theorem dX12_copy_47 : decode cX12_copy 47 = .ok (.aload_n 0, 1) := by decide +kernel
theorem dX12_copy_48 : decode cX12_copy 48 = .ok (.getfield 41, 3) := by decide +kernel
theorem dX12_copy_51 : decode cX12_copy 51 = .ok (.iload_n 1, 1) := by decide +kernel
theorem dX12_copy_52 : decode cX12_copy 52 = .ok (.iaload, 1) := by decide +kernel
theorem dX12_copy_53 : decode cX12_copy 53 = .ok (.aload_n 0, 1) := by decide +kernel
theorem dX12_copy_54 : decode cX12_copy 54 = .ok (.getfield 41, 3) := by decide +kernel
theorem dX12_copy_57 : decode cX12_copy 57 = .ok (.iload_n 3, 1) := by decide +kernel
theorem dX12_copy_58 : decode cX12_copy 58 = .ok (.iaload, 1) := by decide +kernel
theorem dX12_copy_59 : decode cX12_copy 59 = .ok (.if_icmp .eq 6, 3) := by decide +kernel
theorem dX12_copy_62 : decode cX12_copy 62 = .ok (.bipush (-12), 2) := by decide +kernel
theorem dX12_copy_64 : decode cX12_copy 64 = .ok (.ireturn, 1) := by decide +kernel
theorem dX12_copy_65 : decode cX12_copy 65 = .ok (.iload 5, 2) := by decide +kernel
theorem dX12_copy_67 : decode cX12_copy 67 = .ok (.ifCond .lt 38, 3) := by decide +kernel
theorem dX12_copy_70 : decode cX12_copy 70 = .ok (.aload_n 0, 1) := by decide +kernel
theorem dX12_copy_71 : decode cX12_copy 71 = .ok (.iload_n 1, 1) := by decide +kernel
theorem dX12_copy_72 : decode cX12_copy 72 = .ok (.aload_n 0, 1) := by decide +kernel
theorem dX12_copy_73 : decode cX12_copy 73 = .ok (.getfield 41, 3) := by decide +kernel
theorem dX12_copy_76 : decode cX12_copy 76 = .ok (.iload_n 1, 1) := by decide +kernel
theorem dX12_copy_77 : decode cX12_copy 77 = .ok (.iaload, 1) := by decide +kernel
theorem dX12_copy_78 : decode cX12_copy 78 = .ok (.iload_n 2, 1) := by decide +kernel
theorem dX12_copy_79 : decode cX12_copy 79 = .ok (.iload 5, 2) := by decide +kernel
theorem dX12_copy_81 : decode cX12_copy 81 = .ok (.invokevirtual 228, 3) := by decide +kernel
theorem dX12_copy_84 : decode cX12_copy 84 = .ok (.ifCond .lt 21, 3) := by decide +kernel
theorem dX12_copy_87 : decode cX12_copy 87 = .ok (.aload_n 0, 1) := by decide +kernel
theorem dX12_copy_88 : decode cX12_copy 88 = .ok (.iload_n 3, 1) := by decide +kernel
theorem dX12_copy_89 : decode cX12_copy 89 = .ok (.aload_n 0, 1) := by decide +kernel
theorem dX12_copy_90 : decode cX12_copy 90 = .ok (.getfield 41, 3) := by decide +kernel
theorem dX12_copy_93 : decode cX12_copy 93 = .ok (.iload_n 3, 1) := by decide +kernel
theorem dX12_copy_94 : decode cX12_copy 94 = .ok (.iaload, 1) := by decide +kernel
theorem dX12_copy_95 : decode cX12_copy 95 = .ok (.iload 4, 2) := by decide +kernel
theorem dX12_copy_97 : decode cX12_copy 97 = .ok (.iload 5, 2) := by decide +kernel
theorem dX12_copy_99 : decode cX12_copy 99 = .ok (.invokevirtual 228, 3) := by decide +kernel
theorem dX12_copy_102 : decode cX12_copy 102 = .ok (.ifCond .ge 6, 3) := by decide +kernel
theorem dX12_copy_105 : decode cX12_copy 105 = .ok (.bipush (-13), 2) := by decide +kernel
theorem dX12_copy_107 : decode cX12_copy 107 = .ok (.ireturn, 1) := by decide +kernel
theorem dX12_copy_108 : decode cX12_copy 108 = .ok (.iconst 0, 1) := by decide +kernel
theorem dX12_copy_109 : decode cX12_copy 109 = .ok (.istore 6, 2) := by decide +kernel
theorem dX12_copy_111 : decode cX12_copy 111 = .ok (.iload 6, 2) := by decide +kernel
theorem dX12_copy_113 : decode cX12_copy 113 = .ok (.iload 5, 2) := by decide +kernel
theorem dX12_copy_115 : decode cX12_copy 115 = .ok (.if_icmp .ge 58, 3) := by decide +kernel
theorem dX12_copy_118 : decode cX12_copy 118 = .ok (.iload 4, 2) := by decide +kernel
theorem dX12_copy_120 : decode cX12_copy 120 = .ok (.iload_n 2, 1) := by decide +kernel
theorem dX12_copy_121 : decode cX12_copy 121 = .ok (.if_icmp .le 13, 3) := by decide +kernel
theorem dX12_copy_124 : decode cX12_copy 124 = .ok (.iload 5, 2) := by decide +kernel
theorem dX12_copy_126 : decode cX12_copy 126 = .ok (.iconst 1, 1) := by decide +kernel
theorem dX12_copy_127 : decode cX12_copy 127 = .ok (.isub, 1) := by decide +kernel
theorem dX12_copy_128 : decode cX12_copy 128 = .ok (.iload 6, 2) := by decide +kernel
theorem dX12_copy_130 : decode cX12_copy 130 = .ok (.isub, 1) := by decide +kernel
theorem dX12_copy_131 : decode cX12_copy 131 = .ok (.goto 5, 3) := by decide +kernel
theorem dX12_copy_134 : decode cX12_copy 134 = .ok (.iload 6, 2) := by decide +kernel
theorem dX12_copy_136 : decode cX12_copy 136 = .ok (.istore 7, 2) := by decide +kernel
theorem dX12_copy_138 : decode cX12_copy 138 = .ok (.aload_n 0, 1) := by decide +kernel
theorem dX12_copy_139 : decode cX12_copy 139 = .ok (.getfield 44, 3) := by decide +kernel
theorem dX12_copy_142 : decode cX12_copy 142 = .ok (.bipush 24, 2) := by decide +kernel
theorem dX12_copy_144 : decode cX12_copy 144 = .ok (.iload_n 3, 1) := by decide +kernel
theorem dX12_copy_145 : decode cX12_copy 145 = .ok (.imul, 1) := by decide +kernel
theorem dX12_copy_146 : decode cX12_copy 146 = .ok (.iload 4, 2) := by decide +kernel
theorem dX12_copy_148 : decode cX12_copy 148 = .ok (.iadd, 1) := by decide +kernel
theorem dX12_copy_149 : decode cX12_copy 149 = .ok (.iload 7, 2) := by decide +kernel
theorem dX12_copy_151 : decode cX12_copy 151 = .ok (.iadd, 1) := by decide +kernel
theorem dX12_copy_152 : decode cX12_copy 152 = .ok (.aload_n 0, 1) := by decide +kernel
theorem dX12_copy_153 : decode cX12_copy 153 = .ok (.getfield 44, 3) := by decide +kernel
theorem dX12_copy_156 : decode cX12_copy 156 = .ok (.bipush 24, 2) := by decide +kernel
theorem dX12_copy_158 : decode cX12_copy 158 = .ok (.iload_n 1, 1) := by decide +kernel
theorem dX12_copy_159 : decode cX12_copy 159 = .ok (.imul, 1) := by decide +kernel
theorem dX12_copy_160 : decode cX12_copy 160 = .ok (.iload_n 2, 1) := by decide +kernel
theorem dX12_copy_161 : decode cX12_copy 161 = .ok (.iadd, 1) := by decide +kernel
theorem dX12_copy_162 : decode cX12_copy 162 = .ok (.iload 7, 2) := by decide +kernel
theorem dX12_copy_164 : decode cX12_copy 164 = .ok (.iadd, 1) := by decide +kernel
theorem dX12_copy_165 : decode cX12_copy 165 = .ok (.laload, 1) := by decide +kernel
theorem dX12_copy_166 : decode cX12_copy 166 = .ok (.lastore, 1) := by decide +kernel
theorem dX12_copy_167 : decode cX12_copy 167 = .ok (.iinc 6 1, 3) := by decide +kernel
theorem dX12_copy_170 : decode cX12_copy 170 = .ok (.goto (-59), 3) := by decide +kernel
theorem dX12_copy_173 : decode cX12_copy 173 = .ok (.iload 5, 2) := by decide +kernel
theorem dX12_copy_175 : decode cX12_copy 175 = .ok (.ireturn, 1) := by decide +kernel
theorem dJ6_bitCount_0f7a4_0 : decode cJ6_bitCount_0f7a4 0 = .ok (.iload_n 0, 1) := by decide +kernel
theorem dJ6_bitCount_0f7a4_1 : decode cJ6_bitCount_0f7a4 1 = .ok (.iload_n 0, 1) := by decide +kernel
theorem dJ6_bitCount_0f7a4_2 : decode cJ6_bitCount_0f7a4 2 = .ok (.iconst 1, 1) := by decide +kernel
theorem dJ6_bitCount_0f7a4_3 : decode cJ6_bitCount_0f7a4 3 = .ok (.iushr, 1) := by decide +kernel
theorem dJ6_bitCount_0f7a4_4 : decode cJ6_bitCount_0f7a4 4 = .ok (.ldc_w 265, 3) := by decide +kernel
theorem dJ6_bitCount_0f7a4_7 : decode cJ6_bitCount_0f7a4 7 = .ok (.iand, 1) := by decide +kernel
theorem dJ6_bitCount_0f7a4_8 : decode cJ6_bitCount_0f7a4 8 = .ok (.isub, 1) := by decide +kernel
theorem dJ6_bitCount_0f7a4_9 : decode cJ6_bitCount_0f7a4 9 = .ok (.istore_n 0, 1) := by decide +kernel
theorem dJ6_bitCount_0f7a4_10 : decode cJ6_bitCount_0f7a4 10 = .ok (.iload_n 0, 1) := by decide +kernel
theorem dJ6_bitCount_0f7a4_11 : decode cJ6_bitCount_0f7a4 11 = .ok (.ldc_w 266, 3) := by decide +kernel
theorem dJ6_bitCount_0f7a4_14 : decode cJ6_bitCount_0f7a4 14 = .ok (.iand, 1) := by decide +kernel
theorem dJ6_bitCount_0f7a4_15 : decode cJ6_bitCount_0f7a4 15 = .ok (.iload_n 0, 1) := by decide +kernel
theorem dJ6_bitCount_0f7a4_16 : decode cJ6_bitCount_0f7a4 16 = .ok (.iconst 2, 1) := by decide +kernel
theorem dJ6_bitCount_0f7a4_17 : decode cJ6_bitCount_0f7a4 17 = .ok (.iushr, 1) := by decide +kernel
theorem dJ6_bitCount_0f7a4_18 : decode cJ6_bitCount_0f7a4 18 = .ok (.ldc_w 266, 3) := by decide +kernel
theorem dJ6_bitCount_0f7a4_21 : decode cJ6_bitCount_0f7a4 21 = .ok (.iand, 1) := by decide +kernel
theorem dJ6_bitCount_0f7a4_22 : decode cJ6_bitCount_0f7a4 22 = .ok (.iadd, 1) := by decide +kernel
theorem dJ6_bitCount_0f7a4_23 : decode cJ6_bitCount_0f7a4 23 = .ok (.istore_n 0, 1) := by decide +kernel
theorem dJ6_bitCount_0f7a4_24 : decode cJ6_bitCount_0f7a4 24 = .ok (.iload_n 0, 1) := by decide +kernel
theorem dJ6_bitCount_0f7a4_25 : decode cJ6_bitCount_0f7a4 25 = .ok (.iload_n 0, 1) := by decide +kernel
theorem dJ6_bitCount_0f7a4_26 : decode cJ6_bitCount_0f7a4 26 = .ok (.iconst 4, 1) := by decide +kernel
theorem dJ6_bitCount_0f7a4_27 : decode cJ6_bitCount_0f7a4 27 = .ok (.iushr, 1) := by decide +kernel
theorem dJ6_bitCount_0f7a4_28 : decode cJ6_bitCount_0f7a4 28 = .ok (.iadd, 1) := by decide +kernel
theorem dJ6_bitCount_0f7a4_29 : decode cJ6_bitCount_0f7a4 29 = .ok (.ldc_w 267, 3) := by decide +kernel
theorem dJ6_bitCount_0f7a4_32 : decode cJ6_bitCount_0f7a4 32 = .ok (.iand, 1) := by decide +kernel
theorem dJ6_bitCount_0f7a4_33 : decode cJ6_bitCount_0f7a4 33 = .ok (.istore_n 0, 1) := by decide +kernel
theorem dJ6_bitCount_0f7a4_34 : decode cJ6_bitCount_0f7a4 34 = .ok (.iload_n 0, 1) := by decide +kernel
theorem dJ6_bitCount_0f7a4_35 : decode cJ6_bitCount_0f7a4 35 = .ok (.iload_n 0, 1) := by decide +kernel
theorem dJ6_bitCount_0f7a4_36 : decode cJ6_bitCount_0f7a4 36 = .ok (.bipush 8, 2) := by decide +kernel
theorem dJ6_bitCount_0f7a4_38 : decode cJ6_bitCount_0f7a4 38 = .ok (.iushr, 1) := by decide +kernel
theorem dJ6_bitCount_0f7a4_39 : decode cJ6_bitCount_0f7a4 39 = .ok (.iadd, 1) := by decide +kernel
theorem dJ6_bitCount_0f7a4_40 : decode cJ6_bitCount_0f7a4 40 = .ok (.istore_n 0, 1) := by decide +kernel
theorem dJ6_bitCount_0f7a4_41 : decode cJ6_bitCount_0f7a4 41 = .ok (.iload_n 0, 1) := by decide +kernel
theorem dJ6_bitCount_0f7a4_42 : decode cJ6_bitCount_0f7a4 42 = .ok (.iload_n 0, 1) := by decide +kernel
theorem dJ6_bitCount_0f7a4_43 : decode cJ6_bitCount_0f7a4 43 = .ok (.bipush 16, 2) := by decide +kernel
theorem dJ6_bitCount_0f7a4_45 : decode cJ6_bitCount_0f7a4 45 = .ok (.iushr, 1) := by decide +kernel
theorem dJ6_bitCount_0f7a4_46 : decode cJ6_bitCount_0f7a4 46 = .ok (.iadd, 1) := by decide +kernel
theorem dJ6_bitCount_0f7a4_47 : decode cJ6_bitCount_0f7a4 47 = .ok (.istore_n 0, 1) := by decide +kernel
theorem dJ6_bitCount_0f7a4_48 : decode cJ6_bitCount_0f7a4 48 = .ok (.iload_n 0, 1) := by decide +kernel
theorem dJ6_bitCount_0f7a4_49 : decode cJ6_bitCount_0f7a4 49 = .ok (.bipush 63, 2) := by decide +kernel
theorem dJ6_bitCount_0f7a4_51 : decode cJ6_bitCount_0f7a4 51 = .ok (.iand, 1) := by decide +kernel
theorem dJ6_bitCount_0f7a4_52 : decode cJ6_bitCount_0f7a4 52 = .ok (.ireturn, 1) := by decide +kernel
theorem dJ9_max_7cf53_0 : decode cJ9_max_7cf53 0 = .ok (.iload_n 0, 1) := by decide +kernel
theorem dJ9_max_7cf53_1 : decode cJ9_max_7cf53 1 = .ok (.iload_n 1, 1) := by decide +kernel
theorem dJ9_max_7cf53_2 : decode cJ9_max_7cf53 2 = .ok (.if_icmp .lt 7, 3) := by decide +kernel
theorem dJ9_max_7cf53_5 : decode cJ9_max_7cf53 5 = .ok (.iload_n 0, 1) := by decide +kernel
theorem dJ9_max_7cf53_6 : decode cJ9_max_7cf53 6 = .ok (.goto 4, 3) := by decide +kernel
theorem dJ9_max_7cf53_9 : decode cJ9_max_7cf53 9 = .ok (.iload_n 1, 1) := by decide +kernel
theorem dJ9_max_7cf53_10 : decode cJ9_max_7cf53 10 = .ok (.ireturn, 1) := by decide +kernel
theorem dJ9_min_7cf53_0 : decode cJ9_min_7cf53 0 = .ok (.iload_n 0, 1) := by decide +kernel
theorem dJ9_min_7cf53_1 : decode cJ9_min_7cf53 1 = .ok (.iload_n 1, 1) := by decide +kernel
theorem dJ9_min_7cf53_2 : decode cJ9_min_7cf53 2 = .ok (.if_icmp .gt 7, 3) := by decide +kernel
theorem dJ9_min_7cf53_5 : decode cJ9_min_7cf53 5 = .ok (.iload_n 0, 1) := by decide +kernel
theorem dJ9_min_7cf53_6 : decode cJ9_min_7cf53 6 = .ok (.goto 4, 3) := by decide +kernel
theorem dJ9_min_7cf53_9 : decode cJ9_min_7cf53 9 = .ok (.iload_n 1, 1) := by decide +kernel
theorem dJ9_min_7cf53_10 : decode cJ9_min_7cf53 10 = .ok (.ireturn, 1) := by decide +kernel
