theorem dX12_rows_0 : decode cX12_rows 0 = .ok (.aload_n 0, 1) := by decide +kernel
theorem dX12_rows_1 : decode cX12_rows 1 = .ok (.iload_n 1, 1) := by decide +kernel
theorem dX12_rows_2 : decode cX12_rows 2 = .ok (.invokevirtual 161, 3) := by decide +kernel
theorem dX12_rows_5 : decode cX12_rows 5 = .ok (.ifCond .eq 59, 3) := by decide +kernel
theorem dX12_rows_8 : decode cX12_rows 8 = .ok (.iload_n 2, 1) := by decide +kernel
theorem dX12_rows_9 : decode cX12_rows 9 = .ok (.i2l, 1) := by decide +kernel
theorem dX12_rows_10 : decode cX12_rows 10 = .ok (.lconst 0, 1) := by decide +kernel
theorem dX12_rows_11 : decode cX12_rows 11 = .ok (.ldc2_w 209, 3) := by decide +kernel
theorem dX12_rows_14 : decode cX12_rows 14 = .ok (.invokestatic 59, 3) := by decide +kernel
theorem dX12_rows_17 : decode cX12_rows 17 = .ok (.ifCond .eq 47, 3) := by decide +kernel
theorem dX12_rows_20 : decode cX12_rows 20 = .ok (.iload_n 3, 1) := by decide +kernel
theorem dX12_rows_21 : decode cX12_rows 21 = .ok (.i2l, 1) := by decide +kernel
theorem dX12_rows_22 : decode cX12_rows 22 = .ok (.lconst 0, 1) := by decide +kernel
theorem dX12_rows_23 : decode cX12_rows 23 = .ok (.ldc2_w 209, 3) := by decide +kernel
theorem dX12_rows_26 : decode cX12_rows 26 = .ok (.invokestatic 59, 3) := by decide +kernel
theorem dX12_rows_29 : decode cX12_rows 29 = .ok (.ifCond .eq 35, 3) := by decide +kernel
theorem dX12_rows_32 : decode cX12_rows 32 = .ok (.iload 4, 2) := by decide +kernel
theorem dX12_rows_34 : decode cX12_rows 34 = .ok (.i2l, 1) := by decide +kernel
theorem dX12_rows_35 : decode cX12_rows 35 = .ok (.lconst 0, 1) := by decide +kernel
theorem dX12_rows_36 : decode cX12_rows 36 = .ok (.ldc2_w 209, 3) := by decide +kernel
theorem dX12_rows_39 : decode cX12_rows 39 = .ok (.invokestatic 59, 3) := by decide +kernel
theorem dX12_rows_42 : decode cX12_rows 42 = .ok (.ifCond .eq 22, 3) := by decide +kernel
theorem dX12_rows_45 : decode cX12_rows 45 = .ok (.iload 5, 2) := by decide +kernel
theorem dX12_rows_47 : decode cX12_rows 47 = .ok (.i2l, 1) := by decide +kernel
theorem dX12_rows_48 : decode cX12_rows 48 = .ok (.lconst 0, 1) := by decide +kernel
theorem dX12_rows_49 : decode cX12_rows 49 = .ok (.ldc2_w 166, 3) := by decide +kernel
theorem dX12_rows_52 : decode cX12_rows 52 = .ok (.invokestatic 59, 3) := by decide +kernel
theorem dX12_rows_55 : decode cX12_rows 55 = .ok (.ifCond .eq 9, 3) := by decide +kernel
theorem dX12_rows_58 : decode cX12_rows 58 = .ok (.iload 6, 2) := by decide +kernel
theorem dX12_rows_60 : decode cX12_rows 60 = .ok (.iconst (-1), 1) := by decide +kernel
theorem dX12_rows_61 : decode cX12_rows 61 = .ok (.if_icmp .ge 5, 3) := by decide +kernel
theorem dX12_rows_64 : decode cX12_rows 64 = .ok (.iconst (-1), 1) := by decide +kernel
theorem dX12_rows_65 : decode cX12_rows 65 = .ok (.ireturn, 1) := by decide +kernel
theorem dX12_rows_66 : decode cX12_rows 66 = .ok (.bipush 100, 2) := by decide +kernel
theorem dX12_rows_68 : decode cX12_rows 68 = .ok (.iload_n 2, 1) := by decide +kernel
theorem dX12_rows_69 : decode cX12_rows 69 = .ok (.imul, 1) := by decide +kernel
theorem dX12_rows_70 : decode cX12_rows 70 = .ok (.bipush 10, 2) := by decide +kernel
theorem dX12_rows_72 : decode cX12_rows 72 = .ok (.iload_n 3, 1) := by decide +kernel
theorem dX12_rows_73 : decode cX12_rows 73 = .ok (.imul, 1) := by decide +kernel
theorem dX12_rows_74 : decode cX12_rows 74 = .ok (.iadd, 1) := by decide +kernel
theorem dX12_rows_75 : decode cX12_rows 75 = .ok (.iload 4, 2) := by decide +kernel
theorem dX12_rows_77 : decode cX12_rows 77 = .ok (.iadd, 1) := by decide +kernel
theorem dX12_rows_78 : decode cX12_rows 78 = .ok (.istore 7, 2) := by decide +kernel
theorem dX12_rows_80 : decode cX12_rows 80 = .ok (.iconst 0, 1) := by decide +kernel
theorem dX12_rows_81 : decode cX12_rows 81 = .ok (.istore 8, 2) := by decide +kernel
theorem dX12_rows_83 : decode cX12_rows 83 = .ok (.bipush (-4), 2) := by decide +kernel
theorem dX12_rows_85 : decode cX12_rows 85 = .ok (.istore 9, 2) := by decide +kernel
theorem dX12_rows_87 : decode cX12_rows 87 = .ok (.aload_n 0, 1) := by decide +kernel
theorem dX12_rows_88 : decode cX12_rows 88 = .ok (.getfield 7, 3) := by decide +kernel
theorem dX12_rows_91 : decode cX12_rows 91 = .ok (.iconst 1, 1) := by decide +kernel
theorem dX12_rows_92 : decode cX12_rows 92 = .ok (.iaload, 1) := by decide +kernel
theorem dX12_rows_93 : decode cX12_rows 93 = .ok (.iload 5, 2) := by decide +kernel
theorem dX12_rows_95 : decode cX12_rows 95 = .ok (.invokestatic 206, 3) := by decide +kernel
theorem dX12_rows_98 : decode cX12_rows 98 = .ok (.iconst 1, 1) := by decide +kernel
theorem dX12_rows_99 : decode cX12_rows 99 = .ok (.isub, 1) := by decide +kernel
theorem dX12_rows_100 : decode cX12_rows 100 = .ok (.istore 10, 2) := by decide +kernel
theorem dX12_rows_102 : decode cX12_rows 102 = .ok (.iload 10, 2) := by decide +kernel
theorem dX12_rows_104 : decode cX12_rows 104 = .ok (.ifCond .lt 30, 3) := by decide +kernel
theorem dX12_rows_107 : decode cX12_rows 107 = .ok (.aload_n 0, 1) := by decide +kernel
theorem dX12_rows_108 : decode cX12_rows 108 = .ok (.iload_n 1, 1) := by decide +kernel
theorem dX12_rows_109 : decode cX12_rows 109 = .ok (.iload 10, 2) := by decide +kernel
theorem dX12_rows_111 : decode cX12_rows 111 = .ok (.iload 5, 2) := by decide +kernel
theorem dX12_rows_113 : decode cX12_rows 113 = .ok (.invokevirtual 211, 3) := by decide +kernel
theorem dX12_rows_116 : decode cX12_rows 116 = .ok (.iload 7, 2) := by decide +kernel
theorem dX12_rows_118 : decode cX12_rows 118 = .ok (.if_icmp .ne 10, 3) := by decide +kernel
theorem dX12_rows_121 : decode cX12_rows 121 = .ok (.iinc 8 1, 3) := by decide +kernel
theorem dX12_rows_124 : decode cX12_rows 124 = .ok (.iload 10, 2) := by decide +kernel
theorem dX12_rows_126 : decode cX12_rows 126 = .ok (.istore 9, 2) := by decide +kernel
theorem dX12_rows_128 : decode cX12_rows 128 = .ok (.iinc 10 (-1), 3) := by decide +kernel
theorem dX12_rows_131 : decode cX12_rows 131 = .ok (.goto (-29), 3) := by decide +kernel
theorem dX12_rows_134 : decode cX12_rows 134 = .ok (.iload 6, 2) := by decide +kernel
theorem dX12_rows_136 : decode cX12_rows 136 = .ok (.ifCond .ge 6, 3) := by decide +kernel
theorem dX12_rows_139 : decode cX12_rows 139 = .ok (.iload 8, 2) := by decide +kernel
theorem dX12_rows_141 : decode cX12_rows 141 = .ok (.ireturn, 1) := by decide +kernel
theorem dX12_rows_142 : decode cX12_rows 142 = .ok (.iload 9, 2) := by decide +kernel
theorem dX12_rows_144 : decode cX12_rows 144 = .ok (.bipush (-4), 2) := by decide +kernel
theorem dX12_rows_146 : decode cX12_rows 146 = .ok (.if_icmp .eq 10, 3) := by decide +kernel
theorem dX12_rows_149 : decode cX12_rows 149 = .ok (.iload 6, 2) := by decide +kernel
theorem dX12_rows_151 : decode cX12_rows 151 = .ok (.iload 5, 2) := by decide +kernel
theorem dX12_rows_153 : decode cX12_rows 153 = .ok (.if_icmp .lt 6, 3) := by decide +kernel
theorem dX12_rows_156 : decode cX12_rows 156 = .ok (.bipush (-4), 2) := by decide +kernel
theorem dX12_rows_158 : decode cX12_rows 158 = .ok (.ireturn, 1) := by decide +kernel
theorem dX12_rows_159 : decode cX12_rows 159 = .ok (.iload 5, 2) := by decide +kernel
theorem dX12_rows_161 : decode cX12_rows 161 = .ok (.iconst 1, 1) := by decide +kernel
theorem dX12_rows_162 : decode cX12_rows 162 = .ok (.isub, 1) := by decide +kernel
theorem dX12_rows_163 : decode cX12_rows 163 = .ok (.istore 10, 2) := by decide +kernel
theorem dX12_rows_165 : decode cX12_rows 165 = .ok (.iload 10, 2) := by decide +kernel
theorem dX12_rows_167 : decode cX12_rows 167 = .ok (.iload 6, 2) := by decide +kernel
theorem dX12_rows_169 : decode cX12_rows 169 = .ok (.if_icmp .le 20, 3) := by decide +kernel
theorem dX12_rows_172 : decode cX12_rows 172 = .ok (.iload 9, 2) := by decide +kernel
theorem dX12_rows_174 : decode cX12_rows 174 = .ok (.aload_n 0, 1) := by decide +kernel
theorem dX12_rows_175 : decode cX12_rows 175 = .ok (.getfield 7, 3) := by decide +kernel
theorem dX12_rows_178 : decode cX12_rows 178 = .ok (.iconst 1, 1) := by decide +kernel
theorem dX12_rows_179 : decode cX12_rows 179 = .ok (.iaload, 1) := by decide +kernel
theorem dX12_rows_180 : decode cX12_rows 180 = .ok (.idiv, 1) := by decide +kernel
theorem dX12_rows_181 : decode cX12_rows 181 = .ok (.istore 9, 2) := by decide +kernel
theorem dX12_rows_183 : decode cX12_rows 183 = .ok (.iinc 10 (-1), 3) := by decide +kernel
theorem dX12_rows_186 : decode cX12_rows 186 = .ok (.goto (-21), 3) := by decide +kernel
theorem dX12_rows_189 : decode cX12_rows 189 = .ok (.iload 9, 2) := by decide +kernel
theorem dX12_rows_191 : decode cX12_rows 191 = .ok (.aload_n 0, 1) := by decide +kernel
theorem dX12_rows_192 : decode cX12_rows 192 = .ok (.getfield 7, 3) := by decide +kernel
theorem dX12_rows_195 : decode cX12_rows 195 = .ok (.iconst 1, 1) := by decide +kernel
theorem dX12_rows_196 : decode cX12_rows 196 = .ok (.iaload, 1) := by decide +kernel
theorem dX12_rows_197 : decode cX12_rows 197 = .ok (.irem, 1) := by decide +kernel
theorem dX12_rows_198 : decode cX12_rows 198 = .ok (.ireturn, 1) := by decide +kernel
theorem dX12_shades_0 : decode cX12_shades 0 = .ok (.aload_n 0, 1) := by decide +kernel
theorem dX12_shades_1 : decode cX12_shades 1 = .ok (.iload_n 1, 1) := by decide +kernel
theorem dX12_shades_2 : decode cX12_shades 2 = .ok (.invokevirtual 161, 3) := by decide +kernel
theorem dX12_shades_5 : decode cX12_shades 5 = .ok (.ifCond .eq 15, 3) := by decide +kernel
theorem dX12_shades_8 : decode cX12_shades 8 = .ok (.iload_n 2, 1) := by decide +kernel
theorem dX12_shades_9 : decode cX12_shades 9 = .ok (.i2l, 1) := by decide +kernel
theorem dX12_shades_10 : decode cX12_shades 10 = .ok (.lconst 0, 1) := by decide +kernel
theorem dX12_shades_11 : decode cX12_shades 11 = .ok (.ldc2_w 166, 3) := by decide +kernel
theorem dX12_shades_14 : decode cX12_shades 14 = .ok (.invokestatic 59, 3) := by decide +kernel
theorem dX12_shades_17 : decode cX12_shades 17 = .ok (.ifCond .ne 5, 3) := by decide +kernel
theorem dX12_shades_20 : decode cX12_shades 20 = .ok (.iconst (-1), 1) := by decide +kernel
theorem dX12_shades_21 : decode cX12_shades 21 = .ok (.ireturn, 1) := by decide +kernel
theorem dX12_shades_22 : decode cX12_shades 22 = .ok (.iconst 0, 1) := by decide +kernel
theorem dX12_shades_23 : decode cX12_shades 23 = .ok (.istore_n 3, 1) := by decide +kernel
theorem dX12_shades_24 : decode cX12_shades 24 = .ok (.iload_n 3, 1) := by decide +kernel
theorem dX12_shades_25 : decode cX12_shades 25 = .ok (.sipush 1000, 3) := by decide +kernel
theorem dX12_shades_28 : decode cX12_shades 28 = .ok (.if_icmp .ge 16, 3) := by decide +kernel
theorem dX12_shades_31 : decode cX12_shades 31 = .ok (.aload_n 0, 1) := by decide +kernel
theorem dX12_shades_32 : decode cX12_shades 32 = .ok (.getfield 48, 3) := by decide +kernel
theorem dX12_shades_35 : decode cX12_shades 35 = .ok (.iload_n 3, 1) := by decide +kernel
theorem dX12_shades_36 : decode cX12_shades 36 = .ok (.iconst 0, 1) := by decide +kernel
theorem dX12_shades_37 : decode cX12_shades 37 = .ok (.bastore, 1) := by decide +kernel
theorem dX12_shades_38 : decode cX12_shades 38 = .ok (.iinc 3 1, 3) := by decide +kernel
theorem dX12_shades_41 : decode cX12_shades 41 = .ok (.goto (-17), 3) := by decide +kernel
theorem dX12_shades_44 : decode cX12_shades 44 = .ok (.iconst 0, 1) := by decide +kernel
theorem dX12_shades_45 : decode cX12_shades 45 = .ok (.istore_n 3, 1) := by decide +kernel
theorem dX12_shades_46 : decode cX12_shades 46 = .ok (.aload_n 0, 1) := by decide +kernel
theorem dX12_shades_47 : decode cX12_shades 47 = .ok (.getfield 7, 3) := by decide +kernel
theorem dX12_shades_50 : decode cX12_shades 50 = .ok (.iconst 1, 1) := by decide +kernel
theorem dX12_shades_51 : decode cX12_shades 51 = .ok (.iaload, 1) := by decide +kernel
theorem dX12_shades_52 : decode cX12_shades 52 = .ok (.iload_n 2, 1) := by decide +kernel
theorem dX12_shades_53 : decode cX12_shades 53 = .ok (.invokestatic 206, 3) := by decide +kernel
theorem dX12_shades_56 : decode cX12_shades 56 = .ok (.iconst 1, 1) := by decide +kernel
theorem dX12_shades_57 : decode cX12_shades 57 = .ok (.isub, 1) := by decide +kernel
theorem dX12_shades_58 : decode cX12_shades 58 = .ok (.istore 4, 2) := by decide +kernel
theorem dX12_shades_60 : decode cX12_shades 60 = .ok (.iload 4, 2) := by decide +kernel
theorem dX12_shades_62 : decode cX12_shades 62 = .ok (.ifCond .lt 45, 3) := by decide +kernel
theorem dX12_shades_65 : decode cX12_shades 65 = .ok (.aload_n 0, 1) := by decide +kernel
theorem dX12_shades_66 : decode cX12_shades 66 = .ok (.iload_n 1, 1) := by decide +kernel
theorem dX12_shades_67 : decode cX12_shades 67 = .ok (.iload 4, 2) := by decide +kernel
theorem dX12_shades_69 : decode cX12_shades 69 = .ok (.iload_n 2, 1) := by decide +kernel
theorem dX12_shades_70 : decode cX12_shades 70 = .ok (.invokevirtual 211, 3) := by decide +kernel
theorem dX12_shades_73 : decode cX12_shades 73 = .ok (.istore 5, 2) := by decide +kernel
theorem dX12_shades_75 : decode cX12_shades 75 = .ok (.iload_n 3, 1) := by decide +kernel
theorem dX12_shades_76 : decode cX12_shades 76 = .ok (.aload_n 0, 1) := by decide +kernel
theorem dX12_shades_77 : decode cX12_shades 77 = .ok (.getfield 48, 3) := by decide +kernel
theorem dX12_shades_80 : decode cX12_shades 80 = .ok (.iload 5, 2) := by decide +kernel
theorem dX12_shades_82 : decode cX12_shades 82 = .ok (.baload, 1) := by decide +kernel
theorem dX12_shades_83 : decode cX12_shades 83 = .ok (.ifCond .eq 7, 3) := by decide +kernel
theorem dX12_shades_86 : decode cX12_shades 86 = .ok (.iconst 0, 1) := by decide +kernel
theorem dX12_shades_87 : decode cX12_shades 87 = .ok (.goto 4, 3) := by decide +kernel
theorem dX12_shades_90 : decode cX12_shades 90 = .ok (.iconst 1, 1) := by decide +kernel
theorem dX12_shades_91 : decode cX12_shades 91 = .ok (.iadd, 1) := by decide +kernel
theorem dX12_shades_92 : decode cX12_shades 92 = .ok (.istore_n 3, 1) := by decide +kernel
theorem dX12_shades_93 : decode cX12_shades 93 = .ok (.aload_n 0, 1) := by decide +kernel
theorem dX12_shades_94 : decode cX12_shades 94 = .ok (.getfield 48, 3) := by decide +kernel
theorem dX12_shades_97 : decode cX12_shades 97 = .ok (.iload 5, 2) := by decide +kernel
theorem dX12_shades_99 : decode cX12_shades 99 = .ok (.iconst 1, 1) := by decide +kernel
theorem dX12_shades_100 : decode cX12_shades 100 = .ok (.bastore, 1) := by decide +kernel
theorem dX12_shades_101 : decode cX12_shades 101 = .ok (.iinc 4 (-1), 3) := by decide +kernel
theorem dX12_shades_104 : decode cX12_shades 104 = .ok (.goto (-44), 3) := by decide +kernel
theorem dX12_shades_107 : decode cX12_shades 107 = .ok (.iload_n 3, 1) := by decide +kernel
theorem dX12_shades_108 : decode cX12_shades 108 = .ok (.ireturn, 1) := by decide +kernel
theorem dX12_cracks_0 : decode cX12_cracks 0 = .ok (.aload_n 0, 1) := by decide +kernel
theorem dX12_cracks_1 : decode cX12_cracks 1 = .ok (.iload_n 1, 1) := by decide +kernel
theorem dX12_cracks_2 : decode cX12_cracks 2 = .ok (.invokevirtual 172, 3) := by decide +kernel
theorem dX12_cracks_5 : decode cX12_cracks 5 = .ok (.ifCond .eq 38, 3) := by decide +kernel
theorem dX12_cracks_8 : decode cX12_cracks 8 = .ok (.iload_n 2, 1) := by decide +kernel
theorem dX12_cracks_9 : decode cX12_cracks 9 = .ok (.i2l, 1) := by decide +kernel
theorem dX12_cracks_10 : decode cX12_cracks 10 = .ok (.lconst 0, 1) := by decide +kernel
theorem dX12_cracks_11 : decode cX12_cracks 11 = .ok (.ldc2_w 164, 3) := by decide +kernel
theorem dX12_cracks_14 : decode cX12_cracks 14 = .ok (.invokestatic 59, 3) := by decide +kernel
theorem dX12_cracks_17 : decode cX12_cracks 17 = .ok (.ifCond .eq 26, 3) := by decide +kernel
theorem dX12_cracks_20 : decode cX12_cracks 20 = .ok (.iload_n 3, 1) := by decide +kernel
theorem dX12_cracks_21 : decode cX12_cracks 21 = .ok (.i2l, 1) := by decide +kernel
theorem dX12_cracks_22 : decode cX12_cracks 22 = .ok (.lconst 0, 1) := by decide +kernel
theorem dX12_cracks_23 : decode cX12_cracks 23 = .ok (.ldc2_w 141, 3) := by decide +kernel
theorem dX12_cracks_26 : decode cX12_cracks 26 = .ok (.invokestatic 59, 3) := by decide +kernel
theorem dX12_cracks_29 : decode cX12_cracks 29 = .ok (.ifCond .eq 14, 3) := by decide +kernel
theorem dX12_cracks_32 : decode cX12_cracks 32 = .ok (.iload 4, 2) := by decide +kernel
theorem dX12_cracks_34 : decode cX12_cracks 34 = .ok (.i2l, 1) := by decide +kernel
theorem dX12_cracks_35 : decode cX12_cracks 35 = .ok (.lconst 0, 1) := by decide +kernel
theorem dX12_cracks_36 : decode cX12_cracks 36 = .ok (.lconst 1, 1) := by decide +kernel
theorem dX12_cracks_37 : decode cX12_cracks 37 = .ok (.invokestatic 59, 3) := by decide +kernel
theorem dX12_cracks_40 : decode cX12_cracks 40 = .ok (.ifCond .ne 5, 3) := by decide +kernel
theorem dX12_cracks_43 : decode cX12_cracks 43 = .ok (.iconst (-1), 1) := by decide +kernel
theorem dX12_cracks_44 : decode cX12_cracks 44 = .ok (.ireturn, 1) := by decide +kernel
theorem dX12_cracks_45 : decode cX12_cracks 45 = .ok (.iconst 0, 1) := by decide +kernel
theorem dX12_cracks_46 : decode cX12_cracks 46 = .ok (.istore 5, 2) := by decide +kernel
theorem dX12_cracks_48 : decode cX12_cracks 48 = .ok (.iload 5, 2) := by decide +kernel
theorem dX12_cracks_50 : decode cX12_cracks 50 = .ok (.bipush 10, 2) := by decide +kernel
theorem dX12_cracks_52 : decode cX12_cracks 52 = .ok (.if_icmp .ge 26, 3) := by decide +kernel
theorem dX12_cracks_55 : decode cX12_cracks 55 = .ok (.aload_n 0, 1) := by decide +kernel
theorem dX12_cracks_56 : decode cX12_cracks 56 = .ok (.getfield 51, 3) := by decide +kernel
theorem dX12_cracks_59 : decode cX12_cracks 59 = .ok (.iload 5, 2) := by decide +kernel
theorem dX12_cracks_61 : decode cX12_cracks 61 = .ok (.iload 5, 2) := by decide +kernel
theorem dX12_cracks_63 : decode cX12_cracks 63 = .ok (.ifCond .ne 7, 3) := by decide +kernel
theorem dX12_cracks_66 : decode cX12_cracks 66 = .ok (.lconst 1, 1) := by decide +kernel
theorem dX12_cracks_67 : decode cX12_cracks 67 = .ok (.goto 4, 3) := by decide +kernel
theorem dX12_cracks_70 : decode cX12_cracks 70 = .ok (.lconst 0, 1) := by decide +kernel
theorem dX12_cracks_71 : decode cX12_cracks 71 = .ok (.lastore, 1) := by decide +kernel
theorem dX12_cracks_72 : decode cX12_cracks 72 = .ok (.iinc 5 1, 3) := by decide +kernel
theorem dX12_cracks_75 : decode cX12_cracks 75 = .ok (.goto (-27), 3) := by decide +kernel
theorem dX12_cracks_78 : decode cX12_cracks 78 = .ok (.aload_n 0, 1) := by decide +kernel
theorem dX12_cracks_79 : decode cX12_cracks 79 = .ok (.invokevirtual 193, 3) := by decide +kernel
theorem dX12_cracks_82 : decode cX12_cracks 82 = .ok (.lconst 1, 1) := by decide +kernel
theorem dX12_cracks_83 : decode cX12_cracks 83 = .ok (.lstore 5, 2) := by decide +kernel
theorem dX12_cracks_85 : decode cX12_cracks 85 = .ok (.iconst 0, 1) := by decide +kernel
theorem dX12_cracks_86 : decode cX12_cracks 86 = .ok (.istore 7, 2) := by decide +kernel
theorem dX12_cracks_88 : decode cX12_cracks 88 = .ok (.iload 7, 2) := by decide +kernel
theorem dX12_cracks_90 : decode cX12_cracks 90 = .ok (.aload_n 0, 1) := by decide +kernel
theorem dX12_cracks_91 : decode cX12_cracks 91 = .ok (.getfield 7, 3) := by decide +kernel
theorem dX12_cracks_94 : decode cX12_cracks 94 = .ok (.iconst 0, 1) := by decide +kernel
theorem dX12_cracks_95 : decode cX12_cracks 95 = .ok (.iaload, 1) := by decide +kernel
theorem dX12_cracks_96 : decode cX12_cracks 96 = .ok (.if_icmp .ge 219, 3) := by decide +kernel
theorem dX12_cracks_99 : decode cX12_cracks 99 = .ok (.aload_n 0, 1) := by decide +kernel
theorem dX12_cracks_100 : decode cX12_cracks 100 = .ok (.getfield 19, 3) := by decide +kernel
theorem dX12_cracks_103 : decode cX12_cracks 103 = .ok (.bipush 24, 2) := by decide +kernel
theorem dX12_cracks_105 : decode cX12_cracks 105 = .ok (.iload 7, 2) := by decide +kernel
theorem dX12_cracks_107 : decode cX12_cracks 107 = .ok (.iadd, 1) := by decide +kernel
theorem dX12_cracks_108 : decode cX12_cracks 108 = .ok (.iaload, 1) := by decide +kernel
theorem dX12_cracks_109 : decode cX12_cracks 109 = .ok (.ifCond .le 7, 3) := by decide +kernel
theorem dX12_cracks_112 : decode cX12_cracks 112 = .ok (.iconst 1, 1) := by decide +kernel
theorem dX12_cracks_113 : decode cX12_cracks 113 = .ok (.goto 4, 3) := by decide +kernel
theorem dX12_cracks_116 : decode cX12_cracks 116 = .ok (.iconst 0, 1) := by decide +kernel
theorem dX12_cracks_117 : decode cX12_cracks 117 = .ok (.istore 8, 2) := by decide +kernel
theorem dX12_cracks_119 : decode cX12_cracks 119 = .ok (.aload_n 0, 1) := by decide +kernel
theorem dX12_cracks_120 : decode cX12_cracks 120 = .ok (.aload_n 0, 1) := by decide +kernel
theorem dX12_cracks_121 : decode cX12_cracks 121 = .ok (.getfield 22, 3) := by decide +kernel
theorem dX12_cracks_124 : decode cX12_cracks 124 = .ok (.iload 7, 2) := by decide +kernel
theorem dX12_cracks_126 : decode cX12_cracks 126 = .ok (.iload_n 1, 1) := by decide +kernel
theorem dX12_cracks_127 : decode cX12_cracks 127 = .ok (.invokevirtual 147, 3) := by decide +kernel
theorem dX12_cracks_130 : decode cX12_cracks 130 = .ok (.aload_n 0, 1) := by decide +kernel
theorem dX12_cracks_131 : decode cX12_cracks 131 = .ok (.getfield 22, 3) := by decide +kernel
theorem dX12_cracks_134 : decode cX12_cracks 134 = .ok (.iload 7, 2) := by decide +kernel
theorem dX12_cracks_136 : decode cX12_cracks 136 = .ok (.invokestatic 119, 3) := by decide +kernel
theorem dX12_cracks_139 : decode cX12_cracks 139 = .ok (.istore 9, 2) := by decide +kernel
theorem dX12_cracks_141 : decode cX12_cracks 141 = .ok (.aload_n 0, 1) := by decide +kernel
theorem dX12_cracks_142 : decode cX12_cracks 142 = .ok (.getfield 22, 3) := by decide +kernel
theorem dX12_cracks_145 : decode cX12_cracks 145 = .ok (.bipush 24, 2) := by decide +kernel
theorem dX12_cracks_147 : decode cX12_cracks 147 = .ok (.iload 7, 2) := by decide +kernel
theorem dX12_cracks_149 : decode cX12_cracks 149 = .ok (.iadd, 1) := by decide +kernel
theorem dX12_cracks_150 : decode cX12_cracks 150 = .ok (.iconst 0, 1) := by decide +kernel
theorem dX12_cracks_151 : decode cX12_cracks 151 = .ok (.iastore, 1) := by decide +kernel
theorem dX12_cracks_152 : decode cX12_cracks 152 = .ok (.iload 8, 2) := by decide +kernel
theorem dX12_cracks_154 : decode cX12_cracks 154 = .ok (.ifCond .eq 14, 3) := by decide +kernel
theorem dX12_cracks_157 : decode cX12_cracks 157 = .ok (.aload_n 0, 1) := by decide +kernel
theorem dX12_cracks_158 : decode cX12_cracks 158 = .ok (.aload_n 0, 1) := by decide +kernel
theorem dX12_cracks_159 : decode cX12_cracks 159 = .ok (.getfield 22, 3) := by decide +kernel
theorem dX12_cracks_162 : decode cX12_cracks 162 = .ok (.iload 7, 2) := by decide +kernel
theorem dX12_cracks_164 : decode cX12_cracks 164 = .ok (.iload_n 1, 1) := by decide +kernel
theorem dX12_cracks_165 : decode cX12_cracks 165 = .ok (.invokevirtual 147, 3) := by decide +kernel
theorem dX12_cracks_168 : decode cX12_cracks 168 = .ok (.aload_n 0, 1) := by decide +kernel
theorem dX12_cracks_169 : decode cX12_cracks 169 = .ok (.getfield 22, 3) := by decide +kernel
theorem dX12_cracks_172 : decode cX12_cracks 172 = .ok (.iload 7, 2) := by decide +kernel
theorem dX12_cracks_174 : decode cX12_cracks 174 = .ok (.invokestatic 119, 3) := by decide +kernel
theorem dX12_cracks_177 : decode cX12_cracks 177 = .ok (.istore 10, 2) := by decide +kernel
theorem dX12_cracks_179 : decode cX12_cracks 179 = .ok (.iload 8, 2) := by decide +kernel
theorem dX12_cracks_181 : decode cX12_cracks 181 = .ok (.ifCond .eq 8, 3) := by decide +kernel
theorem dX12_cracks_184 : decode cX12_cracks 184 = .ok (.iload_n 3, 1) := by decide +kernel
theorem dX12_cracks_185 : decode cX12_cracks 185 = .ok (.i2l, 1) := by decide +kernel
theorem dX12_cracks_186 : decode cX12_cracks 186 = .ok (.goto 4, 3) := by decide +kernel
theorem dX12_cracks_189 : decode cX12_cracks 189 = .ok (.lconst 0, 1) := by decide +kernel
theorem dX12_cracks_190 : decode cX12_cracks 190 = .ok (.lstore 11, 2) := by decide +kernel
theorem dX12_cracks_192 : decode cX12_cracks 192 = .ok (.iload 8, 2) := by decide +kernel
theorem dX12_cracks_194 : decode cX12_cracks 194 = .ok (.ifCond .eq 11, 3) := by decide +kernel
theorem dX12_cracks_197 : decode cX12_cracks 197 = .ok (.bipush 10, 2) := by decide +kernel
theorem dX12_cracks_199 : decode cX12_cracks 199 = .ok (.iload_n 3, 1) := by decide +kernel
theorem dX12_cracks_200 : decode cX12_cracks 200 = .ok (.isub, 1) := by decide +kernel
theorem dX12_cracks_201 : decode cX12_cracks 201 = .ok (.i2l, 1) := by decide +kernel
theorem dX12_cracks_202 : decode cX12_cracks 202 = .ok (.goto 4, 3) := by decide +kernel
theorem dX12_cracks_205 : decode cX12_cracks 205 = .ok (.lconst 1, 1) := by decide +kernel
theorem dX12_cracks_206 : decode cX12_cracks 206 = .ok (.lstore 13, 2) := by decide +kernel
theorem dX12_cracks_208 : decode cX12_cracks 208 = .ok (.bipush 8, 2) := by decide +kernel
theorem dX12_cracks_210 : decode cX12_cracks 210 = .ok (.istore 15, 2) := by decide +kernel
theorem dX12_cracks_212 : decode cX12_cracks 212 = .ok (.iload 15, 2) := by decide +kernel
theorem dX12_cracks_214 : decode cX12_cracks 214 = .ok (.ifCond .lt 78, 3) := by decide +kernel
theorem dX12_cracks_217 : decode cX12_cracks 217 = .ok (.aload_n 0, 1) := by decide +kernel
theorem dX12_cracks_218 : decode cX12_cracks 218 = .ok (.getfield 51, 3) := by decide +kernel
theorem dX12_cracks_221 : decode cX12_cracks 221 = .ok (.iload 15, 2) := by decide +kernel
theorem dX12_cracks_223 : decode cX12_cracks 223 = .ok (.laload, 1) := by decide +kernel
theorem dX12_cracks_224 : decode cX12_cracks 224 = .ok (.lstore 16, 2) := by decide +kernel
theorem dX12_cracks_226 : decode cX12_cracks 226 = .ok (.aload_n 0, 1) := by decide +kernel
theorem dX12_cracks_227 : decode cX12_cracks 227 = .ok (.getfield 51, 3) := by decide +kernel
theorem dX12_cracks_230 : decode cX12_cracks 230 = .ok (.iload 15, 2) := by decide +kernel
theorem dX12_cracks_232 : decode cX12_cracks 232 = .ok (.lconst 0, 1) := by decide +kernel
theorem dX12_cracks_233 : decode cX12_cracks 233 = .ok (.lastore, 1) := by decide +kernel
theorem dX12_cracks_234 : decode cX12_cracks 234 = .ok (.aload_n 0, 1) := by decide +kernel
theorem dX12_cracks_235 : decode cX12_cracks 235 = .ok (.getfield 51, 3) := by decide +kernel
theorem dX12_cracks_238 : decode cX12_cracks 238 = .ok (.iload 15, 2) := by decide +kernel
theorem dX12_cracks_240 : decode cX12_cracks 240 = .ok (.iload 9, 2) := by decide +kernel
theorem dX12_cracks_242 : decode cX12_cracks 242 = .ok (.ifCond .eq 7, 3) := by decide +kernel
theorem dX12_cracks_245 : decode cX12_cracks 245 = .ok (.iconst 1, 1) := by decide +kernel
theorem dX12_cracks_246 : decode cX12_cracks 246 = .ok (.goto 4, 3) := by decide +kernel
theorem dX12_cracks_249 : decode cX12_cracks 249 = .ok (.iconst 0, 1) := by decide +kernel
theorem dX12_cracks_250 : decode cX12_cracks 250 = .ok (.iadd, 1) := by decide +kernel
theorem dX12_cracks_251 : decode cX12_cracks 251 = .ok (.dup2, 1) := by decide +kernel
theorem dX12_cracks_252 : decode cX12_cracks 252 = .ok (.laload, 1) := by decide +kernel
theorem dX12_cracks_253 : decode cX12_cracks 253 = .ok (.lload 16, 2) := by decide +kernel
theorem dX12_cracks_255 : decode cX12_cracks 255 = .ok (.lload 13, 2) := by decide +kernel
theorem dX12_cracks_257 : decode cX12_cracks 257 = .ok (.lmul, 1) := by decide +kernel
theorem dX12_cracks_258 : decode cX12_cracks 258 = .ok (.ladd, 1) := by decide +kernel
theorem dX12_cracks_259 : decode cX12_cracks 259 = .ok (.lastore, 1) := by decide +kernel
theorem dX12_cracks_260 : decode cX12_cracks 260 = .ok (.aload_n 0, 1) := by decide +kernel
theorem dX12_cracks_261 : decode cX12_cracks 261 = .ok (.getfield 51, 3) := by decide +kernel
theorem dX12_cracks_264 : decode cX12_cracks 264 = .ok (.iload 15, 2) := by decide +kernel
theorem dX12_cracks_266 : decode cX12_cracks 266 = .ok (.iload 10, 2) := by decide +kernel
theorem dX12_cracks_268 : decode cX12_cracks 268 = .ok (.ifCond .eq 7, 3) := by decide +kernel
theorem dX12_cracks_271 : decode cX12_cracks 271 = .ok (.iconst 1, 1) := by decide +kernel
theorem dX12_cracks_272 : decode cX12_cracks 272 = .ok (.goto 4, 3) := by decide +kernel
theorem dX12_cracks_275 : decode cX12_cracks 275 = .ok (.iconst 0, 1) := by decide +kernel
theorem dX12_cracks_276 : decode cX12_cracks 276 = .ok (.iadd, 1) := by decide +kernel
theorem dX12_cracks_277 : decode cX12_cracks 277 = .ok (.dup2, 1) := by decide +kernel
theorem dX12_cracks_278 : decode cX12_cracks 278 = .ok (.laload, 1) := by decide +kernel
theorem dX12_cracks_279 : decode cX12_cracks 279 = .ok (.lload 16, 2) := by decide +kernel
theorem dX12_cracks_281 : decode cX12_cracks 281 = .ok (.lload 11, 2) := by decide +kernel
theorem dX12_cracks_283 : decode cX12_cracks 283 = .ok (.lmul, 1) := by decide +kernel
theorem dX12_cracks_284 : decode cX12_cracks 284 = .ok (.ladd, 1) := by decide +kernel
theorem dX12_cracks_285 : decode cX12_cracks 285 = .ok (.lastore, 1) := by decide +kernel
theorem dX12_cracks_286 : decode cX12_cracks 286 = .ok (.iinc 15 (-1), 3) := by decide +kernel
theorem dX12_cracks_289 : decode cX12_cracks 289 = .ok (.goto (-77), 3) := by decide +kernel
theorem dX12_cracks_292 : decode cX12_cracks 292 = .ok (.lload 5, 2) := by decide +kernel
theorem dX12_cracks_294 : decode cX12_cracks 294 = .ok (.iload 8, 2) := by decide +kernel
theorem dX12_cracks_296 : decode cX12_cracks 296 = .ok (.ifCond .eq 9, 3) := by decide +kernel
theorem dX12_cracks_299 : decode cX12_cracks 299 = .ok (.ldc2_w 141, 3) := by decide +kernel
theorem dX12_cracks_302 : decode cX12_cracks 302 = .ok (.goto 4, 3) := by decide +kernel
theorem dX12_cracks_305 : decode cX12_cracks 305 = .ok (.lconst 1, 1) := by decide +kernel
theorem dX12_cracks_306 : decode cX12_cracks 306 = .ok (.lmul, 1) := by decide +kernel
theorem dX12_cracks_307 : decode cX12_cracks 307 = .ok (.lstore 5, 2) := by decide +kernel
theorem dX12_cracks_309 : decode cX12_cracks 309 = .ok (.iinc 7 1, 3) := by decide +kernel
theorem dX12_cracks_312 : decode cX12_cracks 312 = .ok (.goto (-224), 3) := by decide +kernel
theorem dX12_cracks_315 : decode cX12_cracks 315 = .ok (.lconst 0, 1) := by decide +kernel
theorem dX12_cracks_316 : decode cX12_cracks 316 = .ok (.lstore 7, 2) := by decide +kernel
theorem dX12_cracks_318 : decode cX12_cracks 318 = .ok (.iload_n 2, 1) := by decide +kernel
theorem dX12_cracks_319 : decode cX12_cracks 319 = .ok (.istore 9, 2) := by decide +kernel
theorem dX12_cracks_321 : decode cX12_cracks 321 = .ok (.iload 9, 2) := by decide +kernel
theorem dX12_cracks_323 : decode cX12_cracks 323 = .ok (.bipush 9, 2) := by decide +kernel
theorem dX12_cracks_325 : decode cX12_cracks 325 = .ok (.if_icmp .ge 21, 3) := by decide +kernel
theorem dX12_cracks_328 : decode cX12_cracks 328 = .ok (.lload 7, 2) := by decide +kernel
theorem dX12_cracks_330 : decode cX12_cracks 330 = .ok (.aload_n 0, 1) := by decide +kernel
theorem dX12_cracks_331 : decode cX12_cracks 331 = .ok (.getfield 51, 3) := by decide +kernel
theorem dX12_cracks_334 : decode cX12_cracks 334 = .ok (.iload 9, 2) := by decide +kernel
theorem dX12_cracks_336 : decode cX12_cracks 336 = .ok (.laload, 1) := by decide +kernel
theorem dX12_cracks_337 : decode cX12_cracks 337 = .ok (.ladd, 1) := by decide +kernel
theorem dX12_cracks_338 : decode cX12_cracks 338 = .ok (.lstore 7, 2) := by decide +kernel
theorem dX12_cracks_340 : decode cX12_cracks 340 = .ok (.iinc 9 1, 3) := by decide +kernel
theorem dX12_cracks_343 : decode cX12_cracks 343 = .ok (.goto (-22), 3) := by decide +kernel
theorem dX12_cracks_346 : decode cX12_cracks 346 = .ok (.lload 7, 2) := by decide +kernel
theorem dX12_cracks_348 : decode cX12_cracks 348 = .ok (.lstore 9, 2) := by decide +kernel
theorem dX12_cracks_350 : decode cX12_cracks 350 = .ok (.lload 5, 2) := by decide +kernel
theorem dX12_cracks_352 : decode cX12_cracks 352 = .ok (.lstore 11, 2) := by decide +kernel
theorem dX12_cracks_354 : decode cX12_cracks 354 = .ok (.lload 11, 2) := by decide +kernel
theorem dX12_cracks_356 : decode cX12_cracks 356 = .ok (.lconst 0, 1) := by decide +kernel
theorem dX12_cracks_357 : decode cX12_cracks 357 = .ok (.lcmp, 1) := by decide +kernel
theorem dX12_cracks_358 : decode cX12_cracks 358 = .ok (.ifCond .eq 21, 3) := by decide +kernel
theorem dX12_cracks_361 : decode cX12_cracks 361 = .ok (.lload 9, 2) := by decide +kernel
theorem dX12_cracks_363 : decode cX12_cracks 363 = .ok (.lload 11, 2) := by decide +kernel
theorem dX12_cracks_365 : decode cX12_cracks 365 = .ok (.lrem, 1) := by decide +kernel
theorem dX12_cracks_366 : decode cX12_cracks 366 = .ok (.lstore 13, 2) := by decide +kernel
theorem dX12_cracks_368 : decode cX12_cracks 368 = .ok (.lload 11, 2) := by decide +kernel
theorem dX12_cracks_370 : decode cX12_cracks 370 = .ok (.lstore 9, 2) := by decide +kernel
theorem dX12_cracks_372 : decode cX12_cracks 372 = .ok (.lload 13, 2) := by decide +kernel
theorem dX12_cracks_374 : decode cX12_cracks 374 = .ok (.lstore 11, 2) := by decide +kernel
theorem dX12_cracks_376 : decode cX12_cracks 376 = .ok (.goto (-22), 3) := by decide +kernel
theorem dX12_cracks_379 : decode cX12_cracks 379 = .ok (.iload 4, 2) := by decide +kernel
theorem dX12_cracks_381 : decode cX12_cracks 381 = .ok (.ifCond .ne 8, 3) := by decide +kernel
theorem dX12_cracks_384 : decode cX12_cracks 384 = .ok (.lload 7, 2) := by decide +kernel
theorem dX12_cracks_386 : decode cX12_cracks 386 = .ok (.goto 5, 3) := by decide +kernel
theorem dX12_cracks_389 : decode cX12_cracks 389 = .ok (.lload 5, 2) := by decide +kernel
theorem dX12_cracks_391 : decode cX12_cracks 391 = .ok (.lload 9, 2) := by decide +kernel
theorem dX12_cracks_393 : decode cX12_cracks 393 = .ok (.ldiv, 1) := by decide +kernel
theorem dX12_cracks_394 : decode cX12_cracks 394 = .ok (.l2i, 1) := by decide +kernel
theorem dX12_cracks_395 : decode cX12_cracks 395 = .ok (.ireturn, 1) := by decide +kernel
theorem dX12_decades_0 : decode cX12_decades 0 = .ok (.iload_n 1, 1) := by decide +kernel
theorem dX12_decades_1 : decode cX12_decades 1 = .ok (.i2l, 1) := by decide +kernel
theorem dX12_decades_2 : decode cX12_decades 2 = .ok (.lconst 0, 1) := by decide +kernel
theorem dX12_decades_3 : decode cX12_decades 3 = .ok (.ldc2_w 214, 3) := by decide +kernel
theorem dX12_decades_6 : decode cX12_decades 6 = .ok (.invokestatic 59, 3) := by decide +kernel
theorem dX12_decades_9 : decode cX12_decades 9 = .ok (.ifCond .eq 25, 3) := by decide +kernel
theorem dX12_decades_12 : decode cX12_decades 12 = .ok (.iload_n 2, 1) := by decide +kernel
theorem dX12_decades_13 : decode cX12_decades 13 = .ok (.i2l, 1) := by decide +kernel
theorem dX12_decades_14 : decode cX12_decades 14 = .ok (.lconst 1, 1) := by decide +kernel
theorem dX12_decades_15 : decode cX12_decades 15 = .ok (.ldc2_w 216, 3) := by decide +kernel
theorem dX12_decades_18 : decode cX12_decades 18 = .ok (.invokestatic 59, 3) := by decide +kernel
theorem dX12_decades_21 : decode cX12_decades 21 = .ok (.ifCond .eq 13, 3) := by decide +kernel
theorem dX12_decades_24 : decode cX12_decades 24 = .ok (.iload_n 3, 1) := by decide +kernel
theorem dX12_decades_25 : decode cX12_decades 25 = .ok (.i2l, 1) := by decide +kernel
theorem dX12_decades_26 : decode cX12_decades 26 = .ok (.lconst 0, 1) := by decide +kernel
theorem dX12_decades_27 : decode cX12_decades 27 = .ok (.lconst 1, 1) := by decide +kernel
theorem dX12_decades_28 : decode cX12_decades 28 = .ok (.invokestatic 59, 3) := by decide +kernel
theorem dX12_decades_31 : decode cX12_decades 31 = .ok (.ifCond .ne 5, 3) := by decide +kernel
theorem dX12_decades_34 : decode cX12_decades 34 = .ok (.iconst (-1), 1) := by decide +kernel
theorem dX12_decades_35 : decode cX12_decades 35 = .ok (.ireturn, 1) := by decide +kernel
theorem dX12_decades_36 : decode cX12_decades 36 = .ok (.aload_n 0, 1) := by decide +kernel
theorem dX12_decades_37 : decode cX12_decades 37 = .ok (.getfield 7, 3) := by decide +kernel
theorem dX12_decades_40 : decode cX12_decades 40 = .ok (.iconst 0, 1) := by decide +kernel
theorem dX12_decades_41 : decode cX12_decades 41 = .ok (.iaload, 1) := by decide +kernel
theorem dX12_decades_42 : decode cX12_decades 42 = .ok (.ifCond .ne 6, 3) := by decide +kernel
theorem dX12_decades_45 : decode cX12_decades 45 = .ok (.bipush (-2), 2) := by decide +kernel
theorem dX12_decades_47 : decode cX12_decades 47 = .ok (.ireturn, 1) := by decide +kernel
theorem dX12_decades_48 : decode cX12_decades 48 = .ok (.aload_n 0, 1) := by decide +kernel
theorem dX12_decades_49 : decode cX12_decades 49 = .ok (.invokevirtual 193, 3) := by decide +kernel
theorem dX12_decades_52 : decode cX12_decades 52 = .ok (.iload_n 2, 1) := by decide +kernel
theorem dX12_decades_53 : decode cX12_decades 53 = .ok (.i2l, 1) := by decide +kernel
theorem dX12_decades_54 : decode cX12_decades 54 = .ok (.lstore 4, 2) := by decide +kernel
theorem dX12_decades_56 : decode cX12_decades 56 = .ok (.iconst 0, 1) := by decide +kernel
theorem dX12_decades_57 : decode cX12_decades 57 = .ok (.istore 6, 2) := by decide +kernel
theorem dX12_decades_59 : decode cX12_decades 59 = .ok (.iconst 0, 1) := by decide +kernel
theorem dX12_decades_60 : decode cX12_decades 60 = .ok (.istore 7, 2) := by decide +kernel
theorem dX12_decades_62 : decode cX12_decades 62 = .ok (.iload 7, 2) := by decide +kernel
theorem dX12_decades_64 : decode cX12_decades 64 = .ok (.iload_n 1, 1) := by decide +kernel
theorem dX12_decades_65 : decode cX12_decades 65 = .ok (.if_icmp .ge 62, 3) := by decide +kernel
theorem dX12_decades_68 : decode cX12_decades 68 = .ok (.ldc2_w 218, 3) := by decide +kernel
theorem dX12_decades_71 : decode cX12_decades 71 = .ok (.lload 4, 2) := by decide +kernel
theorem dX12_decades_73 : decode cX12_decades 73 = .ok (.lmul, 1) := by decide +kernel
theorem dX12_decades_74 : decode cX12_decades 74 = .ok (.ldc2_w 220, 3) := by decide +kernel
theorem dX12_decades_77 : decode cX12_decades 77 = .ok (.lrem, 1) := by decide +kernel
theorem dX12_decades_78 : decode cX12_decades 78 = .ok (.lstore 4, 2) := by decide +kernel
theorem dX12_decades_80 : decode cX12_decades 80 = .ok (.aload_n 0, 1) := by decide +kernel
theorem dX12_decades_81 : decode cX12_decades 81 = .ok (.aload_n 0, 1) := by decide +kernel
theorem dX12_decades_82 : decode cX12_decades 82 = .ok (.getfield 22, 3) := by decide +kernel
theorem dX12_decades_85 : decode cX12_decades 85 = .ok (.aload_n 0, 1) := by decide +kernel
theorem dX12_decades_86 : decode cX12_decades 86 = .ok (.lload 4, 2) := by decide +kernel
theorem dX12_decades_88 : decode cX12_decades 88 = .ok (.ldc2_w 188, 3) := by decide +kernel
theorem dX12_decades_91 : decode cX12_decades 91 = .ok (.ldiv, 1) := by decide +kernel
theorem dX12_decades_92 : decode cX12_decades 92 = .ok (.aload_n 0, 1) := by decide +kernel
theorem dX12_decades_93 : decode cX12_decades 93 = .ok (.invokevirtual 190, 3) := by decide +kernel
theorem dX12_decades_96 : decode cX12_decades 96 = .ok (.i2l, 1) := by decide +kernel
theorem dX12_decades_97 : decode cX12_decades 97 = .ok (.lrem, 1) := by decide +kernel
theorem dX12_decades_98 : decode cX12_decades 98 = .ok (.l2i, 1) := by decide +kernel
theorem dX12_decades_99 : decode cX12_decades 99 = .ok (.invokevirtual 196, 3) := by decide +kernel
theorem dX12_decades_102 : decode cX12_decades 102 = .ok (.invokevirtual 179, 3) := by decide +kernel
theorem dX12_decades_105 : decode cX12_decades 105 = .ok (.iload 6, 2) := by decide +kernel
theorem dX12_decades_107 : decode cX12_decades 107 = .ok (.aload_n 0, 1) := by decide +kernel
theorem dX12_decades_108 : decode cX12_decades 108 = .ok (.aload_n 0, 1) := by decide +kernel
theorem dX12_decades_109 : decode cX12_decades 109 = .ok (.getfield 22, 3) := by decide +kernel
theorem dX12_decades_112 : decode cX12_decades 112 = .ok (.invokevirtual 182, 3) := by decide +kernel
theorem dX12_decades_115 : decode cX12_decades 115 = .ok (.invokestatic 199, 3) := by decide +kernel
theorem dX12_decades_118 : decode cX12_decades 118 = .ok (.iadd, 1) := by decide +kernel
theorem dX12_decades_119 : decode cX12_decades 119 = .ok (.istore 6, 2) := by decide +kernel
theorem dX12_decades_121 : decode cX12_decades 121 = .ok (.iinc 7 1, 3) := by decide +kernel
theorem dX12_decades_124 : decode cX12_decades 124 = .ok (.goto (-62), 3) := by decide +kernel
theorem dX12_decades_127 : decode cX12_decades 127 = .ok (.iload_n 3, 1) := by decide +kernel
theorem dX12_decades_128 : decode cX12_decades 128 = .ok (.ifCond .ne 14, 3) := by decide +kernel
theorem dX12_decades_131 : decode cX12_decades 131 = .ok (.aload_n 0, 1) := by decide +kernel
theorem dX12_decades_132 : decode cX12_decades 132 = .ok (.aload_n 0, 1) := by decide +kernel
theorem dX12_decades_133 : decode cX12_decades 133 = .ok (.getfield 22, 3) := by decide +kernel
theorem dX12_decades_136 : decode cX12_decades 136 = .ok (.invokevirtual 222, 3) := by decide +kernel
theorem dX12_decades_139 : decode cX12_decades 139 = .ok (.goto 5, 3) := by decide +kernel
theorem dX12_decades_142 : decode cX12_decades 142 = .ok (.iload 6, 2) := by decide +kernel
theorem dX12_decades_144 : decode cX12_decades 144 = .ok (.ireturn, 1) := by decide +kernel
theorem dX12_isSheet_0 : decode cX12_isSheet 0 = .ok (.iload_n 0, 1) := by decide +kernel
theorem dX12_isSheet_1 : decode cX12_isSheet 1 = .ok (.i2l, 1) := by decide +kernel
theorem dX12_isSheet_2 : decode cX12_isSheet 2 = .ok (.lconst 0, 1) := by decide +kernel
theorem dX12_isSheet_3 : decode cX12_isSheet 3 = .ok (.ldc2_w 170, 3) := by decide +kernel
theorem dX12_isSheet_6 : decode cX12_isSheet 6 = .ok (.invokestatic 59, 3) := by decide +kernel
theorem dX12_isSheet_9 : decode cX12_isSheet 9 = .ok (.ifCond .eq 19, 3) := by decide +kernel
theorem dX12_isSheet_12 : decode cX12_isSheet 12 = .ok (.iload_n 1, 1) := by decide +kernel
theorem dX12_isSheet_13 : decode cX12_isSheet 13 = .ok (.i2l, 1) := by decide +kernel
theorem dX12_isSheet_14 : decode cX12_isSheet 14 = .ok (.lconst 0, 1) := by decide +kernel
theorem dX12_isSheet_15 : decode cX12_isSheet 15 = .ok (.ldc2_w 170, 3) := by decide +kernel
theorem dX12_isSheet_18 : decode cX12_isSheet 18 = .ok (.invokestatic 59, 3) := by decide +kernel
theorem dX12_isSheet_21 : decode cX12_isSheet 21 = .ok (.ifCond .eq 7, 3) := by decide +kernel
theorem dX12_isSheet_24 : decode cX12_isSheet 24 = .ok (.iconst 1, 1) := by decide +kernel
theorem dX12_isSheet_25 : decode cX12_isSheet 25 = .ok (.goto 4, 3) := by decide +kernel
theorem dX12_isSheet_28 : decode cX12_isSheet 28 = .ok (.iconst 0, 1) := by decide +kernel
theorem dX12_isSheet_29 : decode cX12_isSheet 29 = .ok (.ireturn, 1) := by decide +kernel
theorem dX12_found_0 : decode cX12_found 0 = .ok (.aload_n 0, 1) := by decide +kernel
theorem dX12_found_1 : decode cX12_found 1 = .ok (.getfield 38, 3) := by decide +kernel
theorem dX12_found_4 : decode cX12_found 4 = .ok (.iload_n 1, 1) := by decide +kernel
theorem dX12_found_5 : decode cX12_found 5 = .ok (.iaload, 1) := by decide +kernel
theorem dX12_found_6 : decode cX12_found 6 = .ok (.ifCond .ge 6, 3) := by decide +kernel
theorem dX12_found_9 : decode cX12_found 9 = .ok (.bipush (-11), 2) := by decide +kernel
theorem dX12_found_11 : decode cX12_found 11 = .ok (.ireturn, 1) := by decide +kernel
theorem dX12_found_12 : decode cX12_found 12 = .ok (.aload_n 0, 1) := by decide +kernel
theorem dX12_found_13 : decode cX12_found 13 = .ok (.getfield 41, 3) := by decide +kernel
theorem dX12_found_16 : decode cX12_found 16 = .ok (.iload_n 1, 1) := by decide +kernel
theorem dX12_found_17 : decode cX12_found 17 = .ok (.iaload, 1) := by decide +kernel
theorem dX12_found_18 : decode cX12_found 18 = .ok (.iload_n 2, 1) := by decide +kernel
theorem dX12_found_19 : decode cX12_found 19 = .ok (.if_icmp .eq 6, 3) := by decide +kernel
theorem dX12_found_22 : decode cX12_found 22 = .ok (.bipush (-12), 2) := by decide +kernel
theorem dX12_found_24 : decode cX12_found 24 = .ok (.ireturn, 1) := by decide +kernel
theorem dX12_found_25 : decode cX12_found 25 = .ok (.iload_n 3, 1) := by decide +kernel
theorem dX12_found_26 : decode cX12_found 26 = .ok (.ifCond .lt 20, 3) := by decide +kernel
theorem dX12_found_29 : decode cX12_found 29 = .ok (.iload_n 3, 1) := by decide +kernel
theorem dX12_found_30 : decode cX12_found 30 = .ok (.i2l, 1) := by decide +kernel
theorem dX12_found_31 : decode cX12_found 31 = .ok (.iload 4, 2) := by decide +kernel
theorem dX12_found_33 : decode cX12_found 33 = .ok (.i2l, 1) := by decide +kernel
theorem dX12_found_34 : decode cX12_found 34 = .ok (.ladd, 1) := by decide +kernel
theorem dX12_found_35 : decode cX12_found 35 = .ok (.aload_n 0, 1) := by decide +kernel
theorem dX12_found_36 : decode cX12_found 36 = .ok (.getfield 38, 3) := by decide +kernel
theorem dX12_found_39 : decode cX12_found 39 = .ok (.iload_n 1, 1) := by decide +kernel
theorem dX12_found_40 : decode cX12_found 40 = .ok (.iaload, 1) := by decide +kernel
theorem dX12_found_41 : decode cX12_found 41 = .ok (.i2l, 1) := by decide +kernel
theorem dX12_found_42 : decode cX12_found 42 = .ok (.lcmp, 1) := by decide +kernel
theorem dX12_found_43 : decode cX12_found 43 = .ok (.ifCond .le 8, 3) := by decide +kernel
theorem dX12_found_46 : decode cX12_found 46 = .ok (.bipush (-13), 2) := by decide +kernel
theorem dX12_found_48 : decode cX12_found 48 = .ok (.goto 4, 3) := by decide +kernel
theorem dX12_found_51 : decode cX12_found 51 = .ok (.iconst 0, 1) := by decide +kernel
theorem dX12_found_52 : decode cX12_found 52 = .ok (.ireturn, 1) := by decide +kernel
theorem dX12_cut_0 : decode cX12_cut 0 = .ok (.iload_n 0, 1) := by decide +kernel
theorem dX12_cut_1 : decode cX12_cut 1 = .ok (.ifCond .ne 10, 3) := by decide +kernel
theorem dX12_cut_4 : decode cX12_cut 4 = .ok (.lload_n 1, 1) := by decide +kernel
theorem dX12_cut_5 : decode cX12_cut 5 = .ok (.l2i, 1) := by decide +kernel
theorem dX12_cut_6 : decode cX12_cut 6 = .ok (.i2b, 1) := by decide +kernel
theorem dX12_cut_7 : decode cX12_cut 7 = .ok (.i2l, 1) := by decide +kernel
theorem dX12_cut_8 : decode cX12_cut 8 = .ok (.goto 27, 3) := by decide +kernel
theorem dX12_cut_11 : decode cX12_cut 11 = .ok (.iload_n 0, 1) := by decide +kernel
theorem dX12_cut_12 : decode cX12_cut 12 = .ok (.iconst 1, 1) := by decide +kernel
theorem dX12_cut_13 : decode cX12_cut 13 = .ok (.if_icmp .ne 10, 3) := by decide +kernel
theorem dX12_cut_16 : decode cX12_cut 16 = .ok (.lload_n 1, 1) := by decide +kernel
theorem dX12_cut_17 : decode cX12_cut 17 = .ok (.l2i, 1) := by decide +kernel
theorem dX12_cut_18 : decode cX12_cut 18 = .ok (.i2s, 1) := by decide +kernel
theorem dX12_cut_19 : decode cX12_cut 19 = .ok (.i2l, 1) := by decide +kernel
theorem dX12_cut_20 : decode cX12_cut 20 = .ok (.goto 15, 3) := by decide +kernel
theorem dX12_cut_23 : decode cX12_cut 23 = .ok (.iload_n 0, 1) := by decide +kernel
theorem dX12_cut_24 : decode cX12_cut 24 = .ok (.iconst 2, 1) := by decide +kernel
theorem dX12_cut_25 : decode cX12_cut 25 = .ok (.if_icmp .ne 9, 3) := by decide +kernel
theorem dX12_cut_28 : decode cX12_cut 28 = .ok (.lload_n 1, 1) := by decide +kernel
theorem dX12_cut_29 : decode cX12_cut 29 = .ok (.l2i, 1) := by decide +kernel
theorem dX12_cut_30 : decode cX12_cut 30 = .ok (.i2l, 1) := by decide +kernel
theorem dX12_cut_31 : decode cX12_cut 31 = .ok (.goto 4, 3) := by decide +kernel
theorem dX12_cut_34 : decode cX12_cut 34 = .ok (.lload_n 1, 1) := by decide +kernel
theorem dX12_cut_35 : decode cX12_cut 35 = .ok (.lreturn, 1) := by decide +kernel
theorem dX12_log_0 : decode cX12_log 0 = .ok (.aload_n 0, 1) := by decide +kernel
theorem dX12_log_1 : decode cX12_log 1 = .ok (.getfield 7, 3) := by decide +kernel
theorem dX12_log_4 : decode cX12_log 4 = .ok (.iconst 0, 1) := by decide +kernel
theorem dX12_log_5 : decode cX12_log 5 = .ok (.iaload, 1) := by decide +kernel
theorem dX12_log_6 : decode cX12_log 6 = .ok (.ifCond .eq 11, 3) := by decide +kernel
theorem dX12_log_9 : decode cX12_log 9 = .ok (.iload_n 1, 1) := by decide +kernel
theorem dX12_log_10 : decode cX12_log 10 = .ok (.iload_n 2, 1) := by decide +kernel
theorem dX12_log_11 : decode cX12_log 11 = .ok (.invokestatic 225, 3) := by decide +kernel
theorem dX12_log_14 : decode cX12_log 14 = .ok (.ifCond .ne 5, 3) := by decide +kernel
theorem dX12_log_17 : decode cX12_log 17 = .ok (.iconst (-1), 1) := by decide +kernel
theorem dX12_log_18 : decode cX12_log 18 = .ok (.ireturn, 1) := by decide +kernel
theorem dX12_log_19 : decode cX12_log 19 = .ok (.aload_n 0, 1) := by decide +kernel
theorem dX12_log_20 : decode cX12_log 20 = .ok (.iload_n 1, 1) := by decide +kernel
theorem dX12_log_21 : decode cX12_log 21 = .ok (.iload_n 2, 1) := by decide +kernel
theorem dX12_log_22 : decode cX12_log 22 = .ok (.iload_n 3, 1) := by decide +kernel
theorem dX12_log_23 : decode cX12_log 23 = .ok (.aload_n 0, 1) := by decide +kernel
theorem dX12_log_24 : decode cX12_log 24 = .ok (.getfield 7, 3) := by decide +kernel
theorem dX12_log_27 : decode cX12_log 27 = .ok (.iconst 0, 1) := by decide +kernel
theorem dX12_log_28 : decode cX12_log 28 = .ok (.iaload, 1) := by decide +kernel
theorem dX12_log_29 : decode cX12_log 29 = .ok (.invokevirtual 228, 3) := by decide +kernel
theorem dX12_log_32 : decode cX12_log 32 = .ok (.istore 4, 2) := by decide +kernel
theorem dX12_log_34 : decode cX12_log 34 = .ok (.iload 4, 2) := by decide +kernel
theorem dX12_log_36 : decode cX12_log 36 = .ok (.ifCond .ge 6, 3) := by decide +kernel
theorem dX12_log_39 : decode cX12_log 39 = .ok (.iload 4, 2) := by decide +kernel
theorem dX12_log_41 : decode cX12_log 41 = .ok (.ireturn, 1) := by decide +kernel
theorem dX12_log_42 : decode cX12_log 42 = .ok (.iconst 0, 1) := by decide +kernel
theorem dX12_log_43 : decode cX12_log 43 = .ok (.istore 5, 2) := by decide +kernel
theorem dX12_log_45 : decode cX12_log 45 = .ok (.iload 5, 2) := by decide +kernel
theorem dX12_log_47 : decode cX12_log 47 = .ok (.aload_n 0, 1) := by decide +kernel
theorem dX12_log_48 : decode cX12_log 48 = .ok (.getfield 7, 3) := by decide +kernel
theorem dX12_log_51 : decode cX12_log 51 = .ok (.iconst 0, 1) := by decide +kernel
theorem dX12_log_52 : decode cX12_log 52 = .ok (.iaload, 1) := by decide +kernel
theorem dX12_log_53 : decode cX12_log 53 = .ok (.if_icmp .ge 33, 3) := by decide +kernel
theorem dX12_log_56 : decode cX12_log 56 = .ok (.aload_n 0, 1) := by decide +kernel
theorem dX12_log_57 : decode cX12_log 57 = .ok (.getfield 44, 3) := by decide +kernel
theorem dX12_log_60 : decode cX12_log 60 = .ok (.bipush 24, 2) := by decide +kernel
theorem dX12_log_62 : decode cX12_log 62 = .ok (.iload_n 1, 1) := by decide +kernel
theorem dX12_log_63 : decode cX12_log 63 = .ok (.imul, 1) := by decide +kernel
theorem dX12_log_64 : decode cX12_log 64 = .ok (.iload_n 3, 1) := by decide +kernel
theorem dX12_log_65 : decode cX12_log 65 = .ok (.iadd, 1) := by decide +kernel
theorem dX12_log_66 : decode cX12_log 66 = .ok (.iload 5, 2) := by decide +kernel
theorem dX12_log_68 : decode cX12_log 68 = .ok (.iadd, 1) := by decide +kernel
theorem dX12_log_69 : decode cX12_log 69 = .ok (.aload_n 0, 1) := by decide +kernel
theorem dX12_log_70 : decode cX12_log 70 = .ok (.getfield 19, 3) := by decide +kernel
theorem dX12_log_73 : decode cX12_log 73 = .ok (.iload 5, 2) := by decide +kernel
theorem dX12_log_75 : decode cX12_log 75 = .ok (.invokestatic 115, 3) := by decide +kernel
theorem dX12_log_78 : decode cX12_log 78 = .ok (.i2l, 1) := by decide +kernel
theorem dX12_log_79 : decode cX12_log 79 = .ok (.lastore, 1) := by decide +kernel
theorem dX12_log_80 : decode cX12_log 80 = .ok (.iinc 5 1, 3) := by decide +kernel
theorem dX12_log_83 : decode cX12_log 83 = .ok (.goto (-38), 3) := by decide +kernel
theorem dX12_log_86 : decode cX12_log 86 = .ok (.aload_n 0, 1) := by decide +kernel
theorem dX12_log_87 : decode cX12_log 87 = .ok (.getfield 7, 3) := by decide +kernel
theorem dX12_log_90 : decode cX12_log 90 = .ok (.iconst 0, 1) := by decide +kernel
theorem dX12_log_91 : decode cX12_log 91 = .ok (.iaload, 1) := by decide +kernel
theorem dX12_log_92 : decode cX12_log 92 = .ok (.ireturn, 1) := by decide +kernel
theorem dX12_areDoings_0 : decode cX12_areDoings 0 = .ok (.iconst 1, 1) := by decide +kernel
theorem dX12_areDoings_1 : decode cX12_areDoings 1 = .ok (.istore 4, 2) := by decide +kernel
theorem dX12_areDoings_3 : decode cX12_areDoings 3 = .ok (.iconst 0, 1) := by decide +kernel
theorem dX12_areDoings_4 : decode cX12_areDoings 4 = .ok (.istore 5, 2) := by decide +kernel
theorem dX12_areDoings_6 : decode cX12_areDoings 6 = .ok (.iload 5, 2) := by decide +kernel
theorem dX12_areDoings_8 : decode cX12_areDoings 8 = .ok (.iload_n 3, 1) := by decide +kernel
theorem dX12_areDoings_9 : decode cX12_areDoings 9 = .ok (.if_icmp .ge 42, 3) := by decide +kernel
theorem dX12_areDoings_12 : decode cX12_areDoings 12 = .ok (.iload 4, 2) := by decide +kernel
theorem dX12_areDoings_14 : decode cX12_areDoings 14 = .ok (.ifCond .eq 28, 3) := by decide +kernel
theorem dX12_areDoings_17 : decode cX12_areDoings 17 = .ok (.aload_n 0, 1) := by decide +kernel
theorem dX12_areDoings_18 : decode cX12_areDoings 18 = .ok (.aload_n 0, 1) := by decide +kernel
theorem dX12_areDoings_19 : decode cX12_areDoings 19 = .ok (.getfield 44, 3) := by decide +kernel
theorem dX12_areDoings_22 : decode cX12_areDoings 22 = .ok (.bipush 24, 2) := by decide +kernel
theorem dX12_areDoings_24 : decode cX12_areDoings 24 = .ok (.iload_n 1, 1) := by decide +kernel
theorem dX12_areDoings_25 : decode cX12_areDoings 25 = .ok (.imul, 1) := by decide +kernel
theorem dX12_areDoings_26 : decode cX12_areDoings 26 = .ok (.iload_n 2, 1) := by decide +kernel
theorem dX12_areDoings_27 : decode cX12_areDoings 27 = .ok (.iadd, 1) := by decide +kernel
theorem dX12_areDoings_28 : decode cX12_areDoings 28 = .ok (.iload 5, 2) := by decide +kernel
theorem dX12_areDoings_30 : decode cX12_areDoings 30 = .ok (.iadd, 1) := by decide +kernel
theorem dX12_areDoings_31 : decode cX12_areDoings 31 = .ok (.laload, 1) := by decide +kernel
theorem dX12_areDoings_32 : decode cX12_areDoings 32 = .ok (.invokevirtual 175, 3) := by decide +kernel
theorem dX12_areDoings_35 : decode cX12_areDoings 35 = .ok (.ifCond .eq 7, 3) := by decide +kernel
theorem dX12_areDoings_38 : decode cX12_areDoings 38 = .ok (.iconst 1, 1) := by decide +kernel
theorem dX12_areDoings_39 : decode cX12_areDoings 39 = .ok (.goto 4, 3) := by decide +kernel
theorem dX12_areDoings_42 : decode cX12_areDoings 42 = .ok (.iconst 0, 1) := by decide +kernel
theorem dX12_areDoings_43 : decode cX12_areDoings 43 = .ok (.istore 4, 2) := by decide +kernel
theorem dX12_areDoings_45 : decode cX12_areDoings 45 = .ok (.iinc 5 1, 3) := by decide +kernel
theorem dX12_areDoings_48 : decode cX12_areDoings 48 = .ok (.goto (-42), 3) := by decide +kernel
theorem dX12_areDoings_51 : decode cX12_areDoings 51 = .ok (.iload 4, 2) := by decide +kernel
theorem dX12_areDoings_53 : decode cX12_areDoings 53 = .ok (.ireturn, 1) := by decide +kernel
theorem dX12_ahead_0 : decode cX12_ahead 0 = .ok (.aload_n 0, 1) := by decide +kernel
theorem dX12_ahead_1 : decode cX12_ahead 1 = .ok (.iload_n 1, 1) := by decide +kernel
theorem dX12_ahead_2 : decode cX12_ahead 2 = .ok (.invokevirtual 161, 3) := by decide +kernel
theorem dX12_ahead_5 : decode cX12_ahead 5 = .ok (.ifCond .eq 37, 3) := by decide +kernel
theorem dX12_ahead_8 : decode cX12_ahead 8 = .ok (.iload_n 2, 1) := by decide +kernel
theorem dX12_ahead_9 : decode cX12_ahead 9 = .ok (.iload_n 3, 1) := by decide +kernel
theorem dX12_ahead_10 : decode cX12_ahead 10 = .ok (.invokestatic 225, 3) := by decide +kernel
theorem dX12_ahead_13 : decode cX12_ahead 13 = .ok (.ifCond .eq 29, 3) := by decide +kernel
theorem dX12_ahead_16 : decode cX12_ahead 16 = .ok (.iload 5, 2) := by decide +kernel
theorem dX12_ahead_18 : decode cX12_ahead 18 = .ok (.i2l, 1) := by decide +kernel
theorem dX12_ahead_19 : decode cX12_ahead 19 = .ok (.lconst 0, 1) := by decide +kernel
theorem dX12_ahead_20 : decode cX12_ahead 20 = .ok (.ldc2_w 143, 3) := by decide +kernel
theorem dX12_ahead_23 : decode cX12_ahead 23 = .ok (.invokestatic 59, 3) := by decide +kernel
theorem dX12_ahead_26 : decode cX12_ahead 26 = .ok (.ifCond .eq 16, 3) := by decide +kernel
theorem dX12_ahead_29 : decode cX12_ahead 29 = .ok (.iload 6, 2) := by decide +kernel
theorem dX12_ahead_31 : decode cX12_ahead 31 = .ok (.i2l, 1) := by decide +kernel
theorem dX12_ahead_32 : decode cX12_ahead 32 = .ok (.lconst 0, 1) := by decide +kernel
theorem dX12_ahead_33 : decode cX12_ahead 33 = .ok (.ldc2_w 168, 3) := by decide +kernel
theorem dX12_ahead_36 : decode cX12_ahead 36 = .ok (.invokestatic 59, 3) := by decide +kernel
theorem dX12_ahead_39 : decode cX12_ahead 39 = .ok (.ifCond .ne 5, 3) := by decide +kernel
theorem dX12_ahead_42 : decode cX12_ahead 42 = .ok (.iconst (-1), 1) := by decide +kernel
theorem dX12_ahead_43 : decode cX12_ahead 43 = .ok (.ireturn, 1) := by decide +kernel
theorem dX12_ahead_44 : decode cX12_ahead 44 = .ok (.aload_n 0, 1) := by decide +kernel
theorem dX12_ahead_45 : decode cX12_ahead 45 = .ok (.iload_n 2, 1) := by decide +kernel
theorem dX12_ahead_46 : decode cX12_ahead 46 = .ok (.iload_n 3, 1) := by decide +kernel
theorem dX12_ahead_47 : decode cX12_ahead 47 = .ok (.iload 4, 2) := by decide +kernel
theorem dX12_ahead_49 : decode cX12_ahead 49 = .ok (.iload 5, 2) := by decide +kernel
theorem dX12_ahead_51 : decode cX12_ahead 51 = .ok (.invokevirtual 228, 3) := by decide +kernel
theorem dX12_ahead_54 : decode cX12_ahead 54 = .ok (.istore 7, 2) := by decide +kernel
theorem dX12_ahead_56 : decode cX12_ahead 56 = .ok (.iload 7, 2) := by decide +kernel
theorem dX12_ahead_58 : decode cX12_ahead 58 = .ok (.ifCond .ge 6, 3) := by decide +kernel
theorem dX12_ahead_61 : decode cX12_ahead 61 = .ok (.iload 7, 2) := by decide +kernel
theorem dX12_ahead_63 : decode cX12_ahead 63 = .ok (.ireturn, 1) := by decide +kernel
theorem dX12_ahead_64 : decode cX12_ahead 64 = .ok (.aload_n 0, 1) := by decide +kernel
theorem dX12_ahead_65 : decode cX12_ahead 65 = .ok (.iload_n 2, 1) := by decide +kernel
theorem dX12_ahead_66 : decode cX12_ahead 66 = .ok (.iload 4, 2) := by decide +kernel
theorem dX12_ahead_68 : decode cX12_ahead 68 = .ok (.iload 5, 2) := by decide +kernel
theorem dX12_ahead_70 : decode cX12_ahead 70 = .ok (.invokevirtual 232, 3) := by decide +kernel
theorem dX12_ahead_73 : decode cX12_ahead 73 = .ok (.ifCond .ne 6, 3) := by decide +kernel
theorem dX12_ahead_76 : decode cX12_ahead 76 = .ok (.bipush (-2), 2) := by decide +kernel
theorem dX12_ahead_78 : decode cX12_ahead 78 = .ok (.ireturn, 1) := by decide +kernel
theorem dX12_ahead_79 : decode cX12_ahead 79 = .ok (.aload_n 0, 1) := by decide +kernel
theorem dX12_ahead_80 : decode cX12_ahead 80 = .ok (.invokevirtual 193, 3) := by decide +kernel
theorem dX12_ahead_83 : decode cX12_ahead 83 = .ok (.iconst 0, 1) := by decide +kernel
theorem dX12_ahead_84 : decode cX12_ahead 84 = .ok (.istore 8, 2) := by decide +kernel
theorem dX12_ahead_86 : decode cX12_ahead 86 = .ok (.iload 8, 2) := by decide +kernel
theorem dX12_ahead_88 : decode cX12_ahead 88 = .ok (.iload 5, 2) := by decide +kernel
theorem dX12_ahead_90 : decode cX12_ahead 90 = .ok (.if_icmp .ge 34, 3) := by decide +kernel
theorem dX12_ahead_93 : decode cX12_ahead 93 = .ok (.aload_n 0, 1) := by decide +kernel
theorem dX12_ahead_94 : decode cX12_ahead 94 = .ok (.aload_n 0, 1) := by decide +kernel
theorem dX12_ahead_95 : decode cX12_ahead 95 = .ok (.getfield 22, 3) := by decide +kernel
theorem dX12_ahead_98 : decode cX12_ahead 98 = .ok (.iload_n 1, 1) := by decide +kernel
theorem dX12_ahead_99 : decode cX12_ahead 99 = .ok (.aload_n 0, 1) := by decide +kernel
theorem dX12_ahead_100 : decode cX12_ahead 100 = .ok (.getfield 44, 3) := by decide +kernel
theorem dX12_ahead_103 : decode cX12_ahead 103 = .ok (.bipush 24, 2) := by decide +kernel
theorem dX12_ahead_105 : decode cX12_ahead 105 = .ok (.iload_n 2, 1) := by decide +kernel
theorem dX12_ahead_106 : decode cX12_ahead 106 = .ok (.imul, 1) := by decide +kernel
theorem dX12_ahead_107 : decode cX12_ahead 107 = .ok (.iload 4, 2) := by decide +kernel
theorem dX12_ahead_109 : decode cX12_ahead 109 = .ok (.iadd, 1) := by decide +kernel
theorem dX12_ahead_110 : decode cX12_ahead 110 = .ok (.iload 8, 2) := by decide +kernel
theorem dX12_ahead_112 : decode cX12_ahead 112 = .ok (.iadd, 1) := by decide +kernel
theorem dX12_ahead_113 : decode cX12_ahead 113 = .ok (.laload, 1) := by decide +kernel
theorem dX12_ahead_114 : decode cX12_ahead 114 = .ok (.l2i, 1) := by decide +kernel
theorem dX12_ahead_115 : decode cX12_ahead 115 = .ok (.invokevirtual 158, 3) := by decide +kernel
theorem dX12_ahead_118 : decode cX12_ahead 118 = .ok (.iinc 8 1, 3) := by decide +kernel
theorem dX12_ahead_121 : decode cX12_ahead 121 = .ok (.goto (-35), 3) := by decide +kernel
theorem dX12_ahead_124 : decode cX12_ahead 124 = .ok (.iload 6, 2) := by decide +kernel
theorem dX12_ahead_126 : decode cX12_ahead 126 = .ok (.ifCond .ne 14, 3) := by decide +kernel
theorem dX12_ahead_129 : decode cX12_ahead 129 = .ok (.aload_n 0, 1) := by decide +kernel
theorem dX12_ahead_130 : decode cX12_ahead 130 = .ok (.getfield 22, 3) := by decide +kernel
theorem dX12_ahead_133 : decode cX12_ahead 133 = .ok (.iload_n 1, 1) := by decide +kernel
theorem dX12_ahead_134 : decode cX12_ahead 134 = .ok (.invokestatic 115, 3) := by decide +kernel
theorem dX12_ahead_137 : decode cX12_ahead 137 = .ok (.goto 29, 3) := by decide +kernel
theorem dX12_ahead_140 : decode cX12_ahead 140 = .ok (.iload 6, 2) := by decide +kernel
theorem dX12_ahead_142 : decode cX12_ahead 142 = .ok (.iconst 1, 1) := by decide +kernel
theorem dX12_ahead_143 : decode cX12_ahead 143 = .ok (.if_icmp .ne 14, 3) := by decide +kernel
theorem dX12_ahead_146 : decode cX12_ahead 146 = .ok (.aload_n 0, 1) := by decide +kernel
theorem dX12_ahead_147 : decode cX12_ahead 147 = .ok (.getfield 22, 3) := by decide +kernel
theorem dX12_ahead_150 : decode cX12_ahead 150 = .ok (.iload_n 1, 1) := by decide +kernel
theorem dX12_ahead_151 : decode cX12_ahead 151 = .ok (.invokestatic 123, 3) := by decide +kernel
theorem dX12_ahead_154 : decode cX12_ahead 154 = .ok (.goto 12, 3) := by decide +kernel
theorem dX12_ahead_157 : decode cX12_ahead 157 = .ok (.aload_n 0, 1) := by decide +kernel
theorem dX12_ahead_158 : decode cX12_ahead 158 = .ok (.getfield 22, 3) := by decide +kernel
theorem dX12_ahead_161 : decode cX12_ahead 161 = .ok (.bipush 24, 2) := by decide +kernel
theorem dX12_ahead_163 : decode cX12_ahead 163 = .ok (.iload_n 1, 1) := by decide +kernel
theorem dX12_ahead_164 : decode cX12_ahead 164 = .ok (.iadd, 1) := by decide +kernel
theorem dX12_ahead_165 : decode cX12_ahead 165 = .ok (.iaload, 1) := by decide +kernel
theorem dX12_ahead_166 : decode cX12_ahead 166 = .ok (.ireturn, 1) := by decide +kernel
theorem dX12_codeOf_0 : decode cX12_codeOf 0 = .ok (.iconst 0, 1) := by decide +kernel
theorem dX12_codeOf_1 : decode cX12_codeOf 1 = .ok (.iconst 3, 1) := by decide +kernel
theorem dX12_codeOf_2 : decode cX12_codeOf 2 = .ok (.iload_n 1, 1) := by decide +kernel
theorem dX12_codeOf_3 : decode cX12_codeOf 3 = .ok (.imul, 1) := by decide +kernel
theorem dX12_codeOf_4 : decode cX12_codeOf 4 = .ok (.iadd, 1) := by decide +kernel
theorem dX12_codeOf_5 : decode cX12_codeOf 5 = .ok (.istore_n 2, 1) := by decide +kernel
theorem dX12_codeOf_6 : decode cX12_codeOf 6 = .ok (.iconst 4, 1) := by decide +kernel
theorem dX12_codeOf_7 : decode cX12_codeOf 7 = .ok (.bipush 100, 2) := by decide +kernel
theorem dX12_codeOf_9 : decode cX12_codeOf 9 = .ok (.aload_n 0, 1) := by decide +kernel
theorem dX12_codeOf_10 : decode cX12_codeOf 10 = .ok (.getfield 22, 3) := by decide +kernel
theorem dX12_codeOf_13 : decode cX12_codeOf 13 = .ok (.iload_n 2, 1) := by decide +kernel
theorem dX12_codeOf_14 : decode cX12_codeOf 14 = .ok (.iaload, 1) := by decide +kernel
theorem dX12_codeOf_15 : decode cX12_codeOf 15 = .ok (.imul, 1) := by decide +kernel
theorem dX12_codeOf_16 : decode cX12_codeOf 16 = .ok (.bipush 10, 2) := by decide +kernel
theorem dX12_codeOf_18 : decode cX12_codeOf 18 = .ok (.aload_n 0, 1) := by decide +kernel
theorem dX12_codeOf_19 : decode cX12_codeOf 19 = .ok (.getfield 22, 3) := by decide +kernel
theorem dX12_codeOf_22 : decode cX12_codeOf 22 = .ok (.iload_n 2, 1) := by decide +kernel
theorem dX12_codeOf_23 : decode cX12_codeOf 23 = .ok (.iconst 1, 1) := by decide +kernel
theorem dX12_codeOf_24 : decode cX12_codeOf 24 = .ok (.iadd, 1) := by decide +kernel
theorem dX12_codeOf_25 : decode cX12_codeOf 25 = .ok (.iaload, 1) := by decide +kernel
theorem dX12_codeOf_26 : decode cX12_codeOf 26 = .ok (.imul, 1) := by decide +kernel
theorem dX12_codeOf_27 : decode cX12_codeOf 27 = .ok (.iadd, 1) := by decide +kernel
theorem dX12_codeOf_28 : decode cX12_codeOf 28 = .ok (.aload_n 0, 1) := by decide +kernel
theorem dX12_codeOf_29 : decode cX12_codeOf 29 = .ok (.getfield 22, 3) := by decide +kernel
theorem dX12_codeOf_32 : decode cX12_codeOf 32 = .ok (.iload_n 2, 1) := by decide +kernel
theorem dX12_codeOf_33 : decode cX12_codeOf 33 = .ok (.iconst 2, 1) := by decide +kernel
theorem dX12_codeOf_34 : decode cX12_codeOf 34 = .ok (.iadd, 1) := by decide +kernel
theorem dX12_codeOf_35 : decode cX12_codeOf 35 = .ok (.iaload, 1) := by decide +kernel
theorem dX12_codeOf_36 : decode cX12_codeOf 36 = .ok (.iadd, 1) := by decide +kernel
theorem dX12_codeOf_37 : decode cX12_codeOf 37 = .ok (.imul, 1) := by decide +kernel
theorem dX12_codeOf_38 : decode cX12_codeOf 38 = .ok (.aload_n 0, 1) := by decide +kernel
theorem dX12_codeOf_39 : decode cX12_codeOf 39 = .ok (.getfield 22, 3) := by decide +kernel
theorem dX12_codeOf_42 : decode cX12_codeOf 42 = .ok (.bipush 24, 2) := by decide +kernel
theorem dX12_codeOf_44 : decode cX12_codeOf 44 = .ok (.iload_n 1, 1) := by decide +kernel
theorem dX12_codeOf_45 : decode cX12_codeOf 45 = .ok (.iadd, 1) := by decide +kernel
theorem dX12_codeOf_46 : decode cX12_codeOf 46 = .ok (.iaload, 1) := by decide +kernel
theorem dX12_codeOf_47 : decode cX12_codeOf 47 = .ok (.iadd, 1) := by decide +kernel
theorem dX12_codeOf_48 : decode cX12_codeOf 48 = .ok (.ireturn, 1) := by decide +kernel
theorem dX12_goesRound_0 : decode cX12_goesRound 0 = .ok (.iconst 0, 1) := by decide +kernel
theorem dX12_goesRound_1 : decode cX12_goesRound 1 = .ok (.istore 5, 2) := by decide +kernel
theorem dX12_goesRound_3 : decode cX12_goesRound 3 = .ok (.iload 5, 2) := by decide +kernel
theorem dX12_goesRound_5 : decode cX12_goesRound 5 = .ok (.sipush 4000, 3) := by decide +kernel
theorem dX12_goesRound_8 : decode cX12_goesRound 8 = .ok (.if_icmp .ge 17, 3) := by decide +kernel
theorem dX12_goesRound_11 : decode cX12_goesRound 11 = .ok (.aload_n 0, 1) := by decide +kernel
theorem dX12_goesRound_12 : decode cX12_goesRound 12 = .ok (.getfield 54, 3) := by decide +kernel
theorem dX12_goesRound_15 : decode cX12_goesRound 15 = .ok (.iload 5, 2) := by decide +kernel
theorem dX12_goesRound_17 : decode cX12_goesRound 17 = .ok (.iconst 0, 1) := by decide +kernel
theorem dX12_goesRound_18 : decode cX12_goesRound 18 = .ok (.iastore, 1) := by decide +kernel
theorem dX12_goesRound_19 : decode cX12_goesRound 19 = .ok (.iinc 5 1, 3) := by decide +kernel
theorem dX12_goesRound_22 : decode cX12_goesRound 22 = .ok (.goto (-19), 3) := by decide +kernel
theorem dX12_goesRound_25 : decode cX12_goesRound 25 = .ok (.iconst 0, 1) := by decide +kernel
theorem dX12_goesRound_26 : decode cX12_goesRound 26 = .ok (.istore 5, 2) := by decide +kernel
theorem dX12_goesRound_28 : decode cX12_goesRound 28 = .ok (.aload_n 0, 1) := by decide +kernel
theorem dX12_goesRound_29 : decode cX12_goesRound 29 = .ok (.getfield 54, 3) := by decide +kernel
theorem dX12_goesRound_32 : decode cX12_goesRound 32 = .ok (.aload_n 0, 1) := by decide +kernel
theorem dX12_goesRound_33 : decode cX12_goesRound 33 = .ok (.iload_n 1, 1) := by decide +kernel
theorem dX12_goesRound_34 : decode cX12_goesRound 34 = .ok (.invokevirtual 236, 3) := by decide +kernel
theorem dX12_goesRound_37 : decode cX12_goesRound 37 = .ok (.iaload, 1) := by decide +kernel
theorem dX12_goesRound_38 : decode cX12_goesRound 38 = .ok (.ifCond .ne 61, 3) := by decide +kernel
theorem dX12_goesRound_41 : decode cX12_goesRound 41 = .ok (.iinc 5 1, 3) := by decide +kernel
theorem dX12_goesRound_44 : decode cX12_goesRound 44 = .ok (.aload_n 0, 1) := by decide +kernel
theorem dX12_goesRound_45 : decode cX12_goesRound 45 = .ok (.getfield 54, 3) := by decide +kernel
theorem dX12_goesRound_48 : decode cX12_goesRound 48 = .ok (.aload_n 0, 1) := by decide +kernel
theorem dX12_goesRound_49 : decode cX12_goesRound 49 = .ok (.iload_n 1, 1) := by decide +kernel
theorem dX12_goesRound_50 : decode cX12_goesRound 50 = .ok (.invokevirtual 236, 3) := by decide +kernel
theorem dX12_goesRound_53 : decode cX12_goesRound 53 = .ok (.iload 5, 2) := by decide +kernel
theorem dX12_goesRound_55 : decode cX12_goesRound 55 = .ok (.iastore, 1) := by decide +kernel
theorem dX12_goesRound_56 : decode cX12_goesRound 56 = .ok (.iconst 0, 1) := by decide +kernel
theorem dX12_goesRound_57 : decode cX12_goesRound 57 = .ok (.istore 6, 2) := by decide +kernel
theorem dX12_goesRound_59 : decode cX12_goesRound 59 = .ok (.iload 6, 2) := by decide +kernel
theorem dX12_goesRound_61 : decode cX12_goesRound 61 = .ok (.iload 4, 2) := by decide +kernel
theorem dX12_goesRound_63 : decode cX12_goesRound 63 = .ok (.if_icmp .ge 33, 3) := by decide +kernel
theorem dX12_goesRound_66 : decode cX12_goesRound 66 = .ok (.aload_n 0, 1) := by decide +kernel
theorem dX12_goesRound_67 : decode cX12_goesRound 67 = .ok (.aload_n 0, 1) := by decide +kernel
theorem dX12_goesRound_68 : decode cX12_goesRound 68 = .ok (.getfield 22, 3) := by decide +kernel
theorem dX12_goesRound_71 : decode cX12_goesRound 71 = .ok (.iload_n 1, 1) := by decide +kernel
theorem dX12_goesRound_72 : decode cX12_goesRound 72 = .ok (.aload_n 0, 1) := by decide +kernel
theorem dX12_goesRound_73 : decode cX12_goesRound 73 = .ok (.getfield 44, 3) := by decide +kernel
theorem dX12_goesRound_76 : decode cX12_goesRound 76 = .ok (.bipush 24, 2) := by decide +kernel
theorem dX12_goesRound_78 : decode cX12_goesRound 78 = .ok (.iload_n 2, 1) := by decide +kernel
theorem dX12_goesRound_79 : decode cX12_goesRound 79 = .ok (.imul, 1) := by decide +kernel
theorem dX12_goesRound_80 : decode cX12_goesRound 80 = .ok (.iload_n 3, 1) := by decide +kernel
theorem dX12_goesRound_81 : decode cX12_goesRound 81 = .ok (.iadd, 1) := by decide +kernel
theorem dX12_goesRound_82 : decode cX12_goesRound 82 = .ok (.iload 6, 2) := by decide +kernel
theorem dX12_goesRound_84 : decode cX12_goesRound 84 = .ok (.iadd, 1) := by decide +kernel
theorem dX12_goesRound_85 : decode cX12_goesRound 85 = .ok (.laload, 1) := by decide +kernel
theorem dX12_goesRound_86 : decode cX12_goesRound 86 = .ok (.l2i, 1) := by decide +kernel
theorem dX12_goesRound_87 : decode cX12_goesRound 87 = .ok (.invokevirtual 158, 3) := by decide +kernel
theorem dX12_goesRound_90 : decode cX12_goesRound 90 = .ok (.iinc 6 1, 3) := by decide +kernel
theorem dX12_goesRound_93 : decode cX12_goesRound 93 = .ok (.goto (-34), 3) := by decide +kernel
theorem dX12_goesRound_96 : decode cX12_goesRound 96 = .ok (.goto (-68), 3) := by decide +kernel
theorem dX12_goesRound_99 : decode cX12_goesRound 99 = .ok (.aload_n 0, 1) := by decide +kernel
theorem dX12_goesRound_100 : decode cX12_goesRound 100 = .ok (.aload_n 0, 1) := by decide +kernel
theorem dX12_goesRound_101 : decode cX12_goesRound 101 = .ok (.getfield 54, 3) := by decide +kernel
theorem dX12_goesRound_104 : decode cX12_goesRound 104 = .ok (.aload_n 0, 1) := by decide +kernel
theorem dX12_goesRound_105 : decode cX12_goesRound 105 = .ok (.iload_n 1, 1) := by decide +kernel
theorem dX12_goesRound_106 : decode cX12_goesRound 106 = .ok (.invokevirtual 236, 3) := by decide +kernel
theorem dX12_goesRound_109 : decode cX12_goesRound 109 = .ok (.iaload, 1) := by decide +kernel
theorem dX12_goesRound_110 : decode cX12_goesRound 110 = .ok (.iconst 1, 1) := by decide +kernel
theorem dX12_goesRound_111 : decode cX12_goesRound 111 = .ok (.isub, 1) := by decide +kernel
theorem dX12_goesRound_112 : decode cX12_goesRound 112 = .ok (.putfield 239, 3) := by decide +kernel
theorem dX12_goesRound_115 : decode cX12_goesRound 115 = .ok (.aload_n 0, 1) := by decide +kernel
theorem dX12_goesRound_116 : decode cX12_goesRound 116 = .ok (.iload 5, 2) := by decide +kernel
theorem dX12_goesRound_118 : decode cX12_goesRound 118 = .ok (.aload_n 0, 1) := by decide +kernel
theorem dX12_goesRound_119 : decode cX12_goesRound 119 = .ok (.getfield 239, 3) := by decide +kernel
theorem dX12_goesRound_122 : decode cX12_goesRound 122 = .ok (.isub, 1) := by decide +kernel
theorem dX12_goesRound_123 : decode cX12_goesRound 123 = .ok (.putfield 242, 3) := by decide +kernel
theorem dX12_goesRound_126 : decode cX12_goesRound 126 = .ok (.return_, 1) := by decide +kernel
theorem dX12_round_0 : decode cX12_round 0 = .ok (.aload_n 0, 1) := by decide +kernel
theorem dX12_round_1 : decode cX12_round 1 = .ok (.getfield 7, 3) := by decide +kernel
theorem dX12_round_4 : decode cX12_round 4 = .ok (.iconst 0, 1) := by decide +kernel
theorem dX12_round_5 : decode cX12_round 5 = .ok (.iaload, 1) := by decide +kernel
theorem dX12_round_6 : decode cX12_round 6 = .ok (.ifCond .eq 35, 3) := by decide +kernel
theorem dX12_round_9 : decode cX12_round 9 = .ok (.iload_n 1, 1) := by decide +kernel
theorem dX12_round_10 : decode cX12_round 10 = .ok (.iload_n 2, 1) := by decide +kernel
theorem dX12_round_11 : decode cX12_round 11 = .ok (.invokestatic 225, 3) := by decide +kernel
theorem dX12_round_14 : decode cX12_round 14 = .ok (.ifCond .eq 27, 3) := by decide +kernel
theorem dX12_round_17 : decode cX12_round 17 = .ok (.iload 4, 2) := by decide +kernel
theorem dX12_round_19 : decode cX12_round 19 = .ok (.i2l, 1) := by decide +kernel
theorem dX12_round_20 : decode cX12_round 20 = .ok (.lconst 1, 1) := by decide +kernel
theorem dX12_round_21 : decode cX12_round 21 = .ok (.ldc2_w 143, 3) := by decide +kernel
theorem dX12_round_24 : decode cX12_round 24 = .ok (.invokestatic 59, 3) := by decide +kernel
theorem dX12_round_27 : decode cX12_round 27 = .ok (.ifCond .eq 14, 3) := by decide +kernel
theorem dX12_round_30 : decode cX12_round 30 = .ok (.iload 5, 2) := by decide +kernel
theorem dX12_round_32 : decode cX12_round 32 = .ok (.i2l, 1) := by decide +kernel
theorem dX12_round_33 : decode cX12_round 33 = .ok (.lconst 0, 1) := by decide +kernel
theorem dX12_round_34 : decode cX12_round 34 = .ok (.lconst 1, 1) := by decide +kernel
theorem dX12_round_35 : decode cX12_round 35 = .ok (.invokestatic 59, 3) := by decide +kernel
theorem dX12_round_38 : decode cX12_round 38 = .ok (.ifCond .ne 5, 3) := by decide +kernel
theorem dX12_round_41 : decode cX12_round 41 = .ok (.iconst (-1), 1) := by decide +kernel
theorem dX12_round_42 : decode cX12_round 42 = .ok (.ireturn, 1) := by decide +kernel
theorem dX12_round_43 : decode cX12_round 43 = .ok (.aload_n 0, 1) := by decide +kernel
theorem dX12_round_44 : decode cX12_round 44 = .ok (.iload_n 1, 1) := by decide +kernel
theorem dX12_round_45 : decode cX12_round 45 = .ok (.iload_n 2, 1) := by decide +kernel
theorem dX12_round_46 : decode cX12_round 46 = .ok (.iload_n 3, 1) := by decide +kernel
theorem dX12_round_47 : decode cX12_round 47 = .ok (.iload 4, 2) := by decide +kernel
theorem dX12_round_49 : decode cX12_round 49 = .ok (.invokevirtual 228, 3) := by decide +kernel
theorem dX12_round_52 : decode cX12_round 52 = .ok (.istore 6, 2) := by decide +kernel
theorem dX12_round_54 : decode cX12_round 54 = .ok (.iload 6, 2) := by decide +kernel
theorem dX12_round_56 : decode cX12_round 56 = .ok (.ifCond .ge 6, 3) := by decide +kernel
theorem dX12_round_59 : decode cX12_round 59 = .ok (.iload 6, 2) := by decide +kernel
theorem dX12_round_61 : decode cX12_round 61 = .ok (.ireturn, 1) := by decide +kernel
theorem dX12_round_62 : decode cX12_round 62 = .ok (.aload_n 0, 1) := by decide +kernel
theorem dX12_round_63 : decode cX12_round 63 = .ok (.iload_n 1, 1) := by decide +kernel
theorem dX12_round_64 : decode cX12_round 64 = .ok (.iload_n 3, 1) := by decide +kernel
theorem dX12_round_65 : decode cX12_round 65 = .ok (.iload 4, 2) := by decide +kernel
theorem dX12_round_67 : decode cX12_round 67 = .ok (.invokevirtual 232, 3) := by decide +kernel
theorem dX12_round_70 : decode cX12_round 70 = .ok (.ifCond .ne 6, 3) := by decide +kernel
theorem dX12_round_73 : decode cX12_round 73 = .ok (.bipush (-2), 2) := by decide +kernel
theorem dX12_round_75 : decode cX12_round 75 = .ok (.ireturn, 1) := by decide +kernel
theorem dX12_round_76 : decode cX12_round 76 = .ok (.aload_n 0, 1) := by decide +kernel
theorem dX12_round_77 : decode cX12_round 77 = .ok (.invokevirtual 193, 3) := by decide +kernel
theorem dX12_round_80 : decode cX12_round 80 = .ok (.iconst 0, 1) := by decide +kernel
theorem dX12_round_81 : decode cX12_round 81 = .ok (.istore 7, 2) := by decide +kernel
theorem dX12_round_83 : decode cX12_round 83 = .ok (.iconst 1, 1) := by decide +kernel
theorem dX12_round_84 : decode cX12_round 84 = .ok (.istore 8, 2) := by decide +kernel
theorem dX12_round_86 : decode cX12_round 86 = .ok (.iconst 0, 1) := by decide +kernel
theorem dX12_round_87 : decode cX12_round 87 = .ok (.istore 9, 2) := by decide +kernel
theorem dX12_round_89 : decode cX12_round 89 = .ok (.iload 9, 2) := by decide +kernel
theorem dX12_round_91 : decode cX12_round 91 = .ok (.aload_n 0, 1) := by decide +kernel
theorem dX12_round_92 : decode cX12_round 92 = .ok (.getfield 7, 3) := by decide +kernel
theorem dX12_round_95 : decode cX12_round 95 = .ok (.iconst 0, 1) := by decide +kernel
theorem dX12_round_96 : decode cX12_round 96 = .ok (.iaload, 1) := by decide +kernel
theorem dX12_round_97 : decode cX12_round 97 = .ok (.if_icmp .ge 63, 3) := by decide +kernel
theorem dX12_round_100 : decode cX12_round 100 = .ok (.aload_n 0, 1) := by decide +kernel
theorem dX12_round_101 : decode cX12_round 101 = .ok (.iload 9, 2) := by decide +kernel
theorem dX12_round_103 : decode cX12_round 103 = .ok (.iload_n 1, 1) := by decide +kernel
theorem dX12_round_104 : decode cX12_round 104 = .ok (.iload_n 3, 1) := by decide +kernel
theorem dX12_round_105 : decode cX12_round 105 = .ok (.iload 4, 2) := by decide +kernel
theorem dX12_round_107 : decode cX12_round 107 = .ok (.invokevirtual 245, 3) := by decide +kernel
theorem dX12_round_110 : decode cX12_round 110 = .ok (.aload_n 0, 1) := by decide +kernel
theorem dX12_round_111 : decode cX12_round 111 = .ok (.getfield 239, 3) := by decide +kernel
theorem dX12_round_114 : decode cX12_round 114 = .ok (.iload 7, 2) := by decide +kernel
theorem dX12_round_116 : decode cX12_round 116 = .ok (.if_icmp .le 10, 3) := by decide +kernel
theorem dX12_round_119 : decode cX12_round 119 = .ok (.aload_n 0, 1) := by decide +kernel
theorem dX12_round_120 : decode cX12_round 120 = .ok (.getfield 239, 3) := by decide +kernel
theorem dX12_round_123 : decode cX12_round 123 = .ok (.goto 5, 3) := by decide +kernel
theorem dX12_round_126 : decode cX12_round 126 = .ok (.iload 7, 2) := by decide +kernel
theorem dX12_round_128 : decode cX12_round 128 = .ok (.istore 7, 2) := by decide +kernel
theorem dX12_round_130 : decode cX12_round 130 = .ok (.iload 8, 2) := by decide +kernel
theorem dX12_round_132 : decode cX12_round 132 = .ok (.istore 10, 2) := by decide +kernel
theorem dX12_round_134 : decode cX12_round 134 = .ok (.iload 8, 2) := by decide +kernel
theorem dX12_round_136 : decode cX12_round 136 = .ok (.aload_n 0, 1) := by decide +kernel
theorem dX12_round_137 : decode cX12_round 137 = .ok (.getfield 242, 3) := by decide +kernel
theorem dX12_round_140 : decode cX12_round 140 = .ok (.irem, 1) := by decide +kernel
theorem dX12_round_141 : decode cX12_round 141 = .ok (.ifCond .eq 13, 3) := by decide +kernel
theorem dX12_round_144 : decode cX12_round 144 = .ok (.iload 8, 2) := by decide +kernel
theorem dX12_round_146 : decode cX12_round 146 = .ok (.iload 10, 2) := by decide +kernel
theorem dX12_round_148 : decode cX12_round 148 = .ok (.iadd, 1) := by decide +kernel
theorem dX12_round_149 : decode cX12_round 149 = .ok (.istore 8, 2) := by decide +kernel
theorem dX12_round_151 : decode cX12_round 151 = .ok (.goto (-17), 3) := by decide +kernel
theorem dX12_round_154 : decode cX12_round 154 = .ok (.iinc 9 1, 3) := by decide +kernel
theorem dX12_round_157 : decode cX12_round 157 = .ok (.goto (-68), 3) := by decide +kernel
theorem dX12_round_160 : decode cX12_round 160 = .ok (.iload 5, 2) := by decide +kernel
theorem dX12_round_162 : decode cX12_round 162 = .ok (.ifCond .ne 8, 3) := by decide +kernel
theorem dX12_round_165 : decode cX12_round 165 = .ok (.iload 7, 2) := by decide +kernel
theorem dX12_round_167 : decode cX12_round 167 = .ok (.goto 5, 3) := by decide +kernel
theorem dX12_round_170 : decode cX12_round 170 = .ok (.iload 8, 2) := by decide +kernel
theorem dX12_round_172 : decode cX12_round 172 = .ok (.ireturn, 1) := by decide +kernel
theorem dX12_kinds_0 : decode cX12_kinds 0 = .ok (.iload_n 1, 1) := by decide +kernel
theorem dX12_kinds_1 : decode cX12_kinds 1 = .ok (.iload_n 2, 1) := by decide +kernel
theorem dX12_kinds_2 : decode cX12_kinds 2 = .ok (.invokestatic 225, 3) := by decide +kernel
theorem dX12_kinds_5 : decode cX12_kinds 5 = .ok (.ifCond .eq 31, 3) := by decide +kernel
theorem dX12_kinds_8 : decode cX12_kinds 8 = .ok (.iload 4, 2) := by decide +kernel
theorem dX12_kinds_10 : decode cX12_kinds 10 = .ok (.i2l, 1) := by decide +kernel
theorem dX12_kinds_11 : decode cX12_kinds 11 = .ok (.lconst 1, 1) := by decide +kernel
theorem dX12_kinds_12 : decode cX12_kinds 12 = .ok (.ldc2_w 186, 3) := by decide +kernel
theorem dX12_kinds_15 : decode cX12_kinds 15 = .ok (.invokestatic 59, 3) := by decide +kernel
theorem dX12_kinds_18 : decode cX12_kinds 18 = .ok (.ifCond .eq 18, 3) := by decide +kernel
theorem dX12_kinds_21 : decode cX12_kinds 21 = .ok (.iload 5, 2) := by decide +kernel
theorem dX12_kinds_23 : decode cX12_kinds 23 = .ok (.i2l, 1) := by decide +kernel
theorem dX12_kinds_24 : decode cX12_kinds 24 = .ok (.ldc2_w 249, 3) := by decide +kernel
theorem dX12_kinds_27 : decode cX12_kinds 27 = .ok (.ldc2_w 209, 3) := by decide +kernel
theorem dX12_kinds_30 : decode cX12_kinds 30 = .ok (.invokestatic 59, 3) := by decide +kernel
theorem dX12_kinds_33 : decode cX12_kinds 33 = .ok (.ifCond .ne 5, 3) := by decide +kernel
theorem dX12_kinds_36 : decode cX12_kinds 36 = .ok (.iconst (-1), 1) := by decide +kernel
theorem dX12_kinds_37 : decode cX12_kinds 37 = .ok (.ireturn, 1) := by decide +kernel
theorem dX12_kinds_38 : decode cX12_kinds 38 = .ok (.aload_n 0, 1) := by decide +kernel
theorem dX12_kinds_39 : decode cX12_kinds 39 = .ok (.iload_n 1, 1) := by decide +kernel
theorem dX12_kinds_40 : decode cX12_kinds 40 = .ok (.iload_n 2, 1) := by decide +kernel
theorem dX12_kinds_41 : decode cX12_kinds 41 = .ok (.iload_n 3, 1) := by decide +kernel
theorem dX12_kinds_42 : decode cX12_kinds 42 = .ok (.iconst 3, 1) := by decide +kernel
theorem dX12_kinds_43 : decode cX12_kinds 43 = .ok (.iload 4, 2) := by decide +kernel
theorem dX12_kinds_45 : decode cX12_kinds 45 = .ok (.imul, 1) := by decide +kernel
theorem dX12_kinds_46 : decode cX12_kinds 46 = .ok (.invokevirtual 228, 3) := by decide +kernel
theorem dX12_kinds_49 : decode cX12_kinds 49 = .ok (.istore 6, 2) := by decide +kernel
theorem dX12_kinds_51 : decode cX12_kinds 51 = .ok (.iload 6, 2) := by decide +kernel
theorem dX12_kinds_53 : decode cX12_kinds 53 = .ok (.ifCond .ge 6, 3) := by decide +kernel
theorem dX12_kinds_56 : decode cX12_kinds 56 = .ok (.iload 6, 2) := by decide +kernel
theorem dX12_kinds_58 : decode cX12_kinds 58 = .ok (.ireturn, 1) := by decide +kernel
theorem dX12_kinds_59 : decode cX12_kinds 59 = .ok (.bipush 62, 2) := by decide +kernel
theorem dX12_kinds_61 : decode cX12_kinds 61 = .ok (.istore 7, 2) := by decide +kernel
theorem dX12_kinds_63 : decode cX12_kinds 63 = .ok (.iconst 0, 1) := by decide +kernel
theorem dX12_kinds_64 : decode cX12_kinds 64 = .ok (.istore 8, 2) := by decide +kernel
theorem dX12_kinds_66 : decode cX12_kinds 66 = .ok (.iload 8, 2) := by decide +kernel
theorem dX12_kinds_68 : decode cX12_kinds 68 = .ok (.iload 4, 2) := by decide +kernel
theorem dX12_kinds_70 : decode cX12_kinds 70 = .ok (.if_icmp .ge 130, 3) := by decide +kernel
theorem dX12_kinds_73 : decode cX12_kinds 73 = .ok (.bipush 24, 2) := by decide +kernel
theorem dX12_kinds_75 : decode cX12_kinds 75 = .ok (.iload_n 1, 1) := by decide +kernel
theorem dX12_kinds_76 : decode cX12_kinds 76 = .ok (.imul, 1) := by decide +kernel
theorem dX12_kinds_77 : decode cX12_kinds 77 = .ok (.iload_n 3, 1) := by decide +kernel
theorem dX12_kinds_78 : decode cX12_kinds 78 = .ok (.iadd, 1) := by decide +kernel
theorem dX12_kinds_79 : decode cX12_kinds 79 = .ok (.iconst 3, 1) := by decide +kernel
theorem dX12_kinds_80 : decode cX12_kinds 80 = .ok (.iload 8, 2) := by decide +kernel
theorem dX12_kinds_82 : decode cX12_kinds 82 = .ok (.imul, 1) := by decide +kernel
theorem dX12_kinds_83 : decode cX12_kinds 83 = .ok (.iadd, 1) := by decide +kernel
theorem dX12_kinds_84 : decode cX12_kinds 84 = .ok (.istore 9, 2) := by decide +kernel
theorem dX12_kinds_86 : decode cX12_kinds 86 = .ok (.aload_n 0, 1) := by decide +kernel
theorem dX12_kinds_87 : decode cX12_kinds 87 = .ok (.getfield 44, 3) := by decide +kernel
theorem dX12_kinds_90 : decode cX12_kinds 90 = .ok (.iload 9, 2) := by decide +kernel
theorem dX12_kinds_92 : decode cX12_kinds 92 = .ok (.laload, 1) := by decide +kernel
theorem dX12_kinds_93 : decode cX12_kinds 93 = .ok (.lconst 0, 1) := by decide +kernel
theorem dX12_kinds_94 : decode cX12_kinds 94 = .ok (.ldc2_w 209, 3) := by decide +kernel
theorem dX12_kinds_97 : decode cX12_kinds 97 = .ok (.invokestatic 59, 3) := by decide +kernel
theorem dX12_kinds_100 : decode cX12_kinds 100 = .ok (.ifCond .eq 22, 3) := by decide +kernel
theorem dX12_kinds_103 : decode cX12_kinds 103 = .ok (.aload_n 0, 1) := by decide +kernel
theorem dX12_kinds_104 : decode cX12_kinds 104 = .ok (.getfield 44, 3) := by decide +kernel
theorem dX12_kinds_107 : decode cX12_kinds 107 = .ok (.iload 9, 2) := by decide +kernel
theorem dX12_kinds_109 : decode cX12_kinds 109 = .ok (.iconst 1, 1) := by decide +kernel
theorem dX12_kinds_110 : decode cX12_kinds 110 = .ok (.iadd, 1) := by decide +kernel
theorem dX12_kinds_111 : decode cX12_kinds 111 = .ok (.laload, 1) := by decide +kernel
theorem dX12_kinds_112 : decode cX12_kinds 112 = .ok (.lconst 0, 1) := by decide +kernel
theorem dX12_kinds_113 : decode cX12_kinds 113 = .ok (.ldc2_w 170, 3) := by decide +kernel
theorem dX12_kinds_116 : decode cX12_kinds 116 = .ok (.invokestatic 59, 3) := by decide +kernel
theorem dX12_kinds_119 : decode cX12_kinds 119 = .ok (.ifCond .ne 6, 3) := by decide +kernel
theorem dX12_kinds_122 : decode cX12_kinds 122 = .ok (.bipush (-2), 2) := by decide +kernel
theorem dX12_kinds_124 : decode cX12_kinds 124 = .ok (.ireturn, 1) := by decide +kernel
theorem dX12_kinds_125 : decode cX12_kinds 125 = .ok (.iconst 1, 1) := by decide +kernel
theorem dX12_kinds_126 : decode cX12_kinds 126 = .ok (.istore 10, 2) := by decide +kernel
theorem dX12_kinds_128 : decode cX12_kinds 128 = .ok (.iload 10, 2) := by decide +kernel
theorem dX12_kinds_130 : decode cX12_kinds 130 = .ok (.bipush 6, 2) := by decide +kernel
theorem dX12_kinds_132 : decode cX12_kinds 132 = .ok (.if_icmp .ge 62, 3) := by decide +kernel
theorem dX12_kinds_135 : decode cX12_kinds 135 = .ok (.iload 7, 2) := by decide +kernel
theorem dX12_kinds_137 : decode cX12_kinds 137 = .ok (.iload 10, 2) := by decide +kernel
theorem dX12_kinds_139 : decode cX12_kinds 139 = .ok (.aload_n 0, 1) := by decide +kernel
theorem dX12_kinds_140 : decode cX12_kinds 140 = .ok (.getfield 44, 3) := by decide +kernel
theorem dX12_kinds_143 : decode cX12_kinds 143 = .ok (.iload 9, 2) := by decide +kernel
theorem dX12_kinds_145 : decode cX12_kinds 145 = .ok (.laload, 1) := by decide +kernel
theorem dX12_kinds_146 : decode cX12_kinds 146 = .ok (.l2i, 1) := by decide +kernel
theorem dX12_kinds_147 : decode cX12_kinds 147 = .ok (.aload_n 0, 1) := by decide +kernel
theorem dX12_kinds_148 : decode cX12_kinds 148 = .ok (.getfield 44, 3) := by decide +kernel
theorem dX12_kinds_151 : decode cX12_kinds 151 = .ok (.iload 9, 2) := by decide +kernel
theorem dX12_kinds_153 : decode cX12_kinds 153 = .ok (.iconst 1, 1) := by decide +kernel
theorem dX12_kinds_154 : decode cX12_kinds 154 = .ok (.iadd, 1) := by decide +kernel
theorem dX12_kinds_155 : decode cX12_kinds 155 = .ok (.laload, 1) := by decide +kernel
theorem dX12_kinds_156 : decode cX12_kinds 156 = .ok (.l2i, 1) := by decide +kernel
theorem dX12_kinds_157 : decode cX12_kinds 157 = .ok (.invokestatic 130, 3) := by decide +kernel
theorem dX12_kinds_160 : decode cX12_kinds 160 = .ok (.i2l, 1) := by decide +kernel
theorem dX12_kinds_161 : decode cX12_kinds 161 = .ok (.aload_n 0, 1) := by decide +kernel
theorem dX12_kinds_162 : decode cX12_kinds 162 = .ok (.getfield 44, 3) := by decide +kernel
theorem dX12_kinds_165 : decode cX12_kinds 165 = .ok (.iload 9, 2) := by decide +kernel
theorem dX12_kinds_167 : decode cX12_kinds 167 = .ok (.iconst 2, 1) := by decide +kernel
theorem dX12_kinds_168 : decode cX12_kinds 168 = .ok (.iadd, 1) := by decide +kernel
theorem dX12_kinds_169 : decode cX12_kinds 169 = .ok (.laload, 1) := by decide +kernel
theorem dX12_kinds_170 : decode cX12_kinds 170 = .ok (.lcmp, 1) := by decide +kernel
theorem dX12_kinds_171 : decode cX12_kinds 171 = .ok (.ifCond .ne 8, 3) := by decide +kernel
theorem dX12_kinds_174 : decode cX12_kinds 174 = .ok (.iload 7, 2) := by decide +kernel
theorem dX12_kinds_176 : decode cX12_kinds 176 = .ok (.goto 9, 3) := by decide +kernel
theorem dX12_kinds_179 : decode cX12_kinds 179 = .ok (.iconst 1, 1) := by decide +kernel
theorem dX12_kinds_180 : decode cX12_kinds 180 = .ok (.iload 10, 2) := by decide +kernel
theorem dX12_kinds_182 : decode cX12_kinds 182 = .ok (.ishl, 1) := by decide +kernel
theorem dX12_kinds_183 : decode cX12_kinds 183 = .ok (.iconst (-1), 1) := by decide +kernel
theorem dX12_kinds_184 : decode cX12_kinds 184 = .ok (.ixor, 1) := by decide +kernel
theorem dX12_kinds_185 : decode cX12_kinds 185 = .ok (.iand, 1) := by decide +kernel
theorem dX12_kinds_186 : decode cX12_kinds 186 = .ok (.istore 7, 2) := by decide +kernel
theorem dX12_kinds_188 : decode cX12_kinds 188 = .ok (.iinc 10 1, 3) := by decide +kernel
theorem dX12_kinds_191 : decode cX12_kinds 191 = .ok (.goto (-63), 3) := by decide +kernel
theorem dX12_kinds_194 : decode cX12_kinds 194 = .ok (.iinc 8 1, 3) := by decide +kernel
theorem dX12_kinds_197 : decode cX12_kinds 197 = .ok (.goto (-131), 3) := by decide +kernel
theorem dX12_kinds_200 : decode cX12_kinds 200 = .ok (.iload 5, 2) := by decide +kernel
theorem dX12_kinds_202 : decode cX12_kinds 202 = .ok (.ifCond .ge 8, 3) := by decide +kernel
theorem dX12_kinds_205 : decode cX12_kinds 205 = .ok (.iload 7, 2) := by decide +kernel
theorem dX12_kinds_207 : decode cX12_kinds 207 = .ok (.goto 10, 3) := by decide +kernel
theorem dX12_kinds_210 : decode cX12_kinds 210 = .ok (.iload 7, 2) := by decide +kernel
theorem dX12_kinds_212 : decode cX12_kinds 212 = .ok (.iload 5, 2) := by decide +kernel
theorem dX12_kinds_214 : decode cX12_kinds 214 = .ok (.invokestatic 251, 3) := by decide +kernel
theorem dX12_kinds_217 : decode cX12_kinds 217 = .ok (.ireturn, 1) := by decide +kernel
theorem dX12_tryOf_0 : decode cX12_tryOf 0 = .ok (.bipush (-4), 2) := by decide +kernel
theorem dX12_tryOf_2 : decode cX12_tryOf 2 = .ok (.istore_n 2, 1) := by decide +kernel
theorem dX12_tryOf_3 : decode cX12_tryOf 3 = .ok (.bipush 6, 2) := by decide +kernel
theorem dX12_tryOf_5 : decode cX12_tryOf 5 = .ok (.istore_n 3, 1) := by decide +kernel
theorem dX12_tryOf_6 : decode cX12_tryOf 6 = .ok (.iconst 1, 1) := by decide +kernel
theorem dX12_tryOf_7 : decode cX12_tryOf 7 = .ok (.istore 4, 2) := by decide +kernel
theorem dX12_tryOf_9 : decode cX12_tryOf 9 = .ok (.iload 4, 2) := by decide +kernel
theorem dX12_tryOf_11 : decode cX12_tryOf 11 = .ok (.iconst 4, 1) := by decide +kernel
theorem dX12_tryOf_12 : decode cX12_tryOf 12 = .ok (.if_icmp .ge 118, 3) := by decide +kernel
theorem dX12_tryOf_15 : decode cX12_tryOf 15 = .ok (.iload_n 0, 1) := by decide +kernel
theorem dX12_tryOf_16 : decode cX12_tryOf 16 = .ok (.ifCond .eq 114, 3) := by decide +kernel
theorem dX12_tryOf_19 : decode cX12_tryOf 19 = .ok (.iconst 0, 1) := by decide +kernel
theorem dX12_tryOf_20 : decode cX12_tryOf 20 = .ok (.istore 5, 2) := by decide +kernel
theorem dX12_tryOf_22 : decode cX12_tryOf 22 = .ok (.iconst 0, 1) := by decide +kernel
theorem dX12_tryOf_23 : decode cX12_tryOf 23 = .ok (.istore 6, 2) := by decide +kernel
theorem dX12_tryOf_25 : decode cX12_tryOf 25 = .ok (.iload 6, 2) := by decide +kernel
theorem dX12_tryOf_27 : decode cX12_tryOf 27 = .ok (.iconst 5, 1) := by decide +kernel
theorem dX12_tryOf_28 : decode cX12_tryOf 28 = .ok (.if_icmp .ge 76, 3) := by decide +kernel
theorem dX12_tryOf_31 : decode cX12_tryOf 31 = .ok (.iconst 0, 1) := by decide +kernel
theorem dX12_tryOf_32 : decode cX12_tryOf 32 = .ok (.istore 7, 2) := by decide +kernel
theorem dX12_tryOf_34 : decode cX12_tryOf 34 = .ok (.iconst 1, 1) := by decide +kernel
theorem dX12_tryOf_35 : decode cX12_tryOf 35 = .ok (.istore 8, 2) := by decide +kernel
theorem dX12_tryOf_37 : decode cX12_tryOf 37 = .ok (.iload 8, 2) := by decide +kernel
theorem dX12_tryOf_39 : decode cX12_tryOf 39 = .ok (.bipush 6, 2) := by decide +kernel
theorem dX12_tryOf_41 : decode cX12_tryOf 41 = .ok (.if_icmp .ge 41, 3) := by decide +kernel
theorem dX12_tryOf_44 : decode cX12_tryOf 44 = .ok (.iload 7, 2) := by decide +kernel
theorem dX12_tryOf_46 : decode cX12_tryOf 46 = .ok (.iload_n 0, 1) := by decide +kernel
theorem dX12_tryOf_47 : decode cX12_tryOf 47 = .ok (.iload 8, 2) := by decide +kernel
theorem dX12_tryOf_49 : decode cX12_tryOf 49 = .ok (.invokestatic 151, 3) := by decide +kernel
theorem dX12_tryOf_52 : decode cX12_tryOf 52 = .ok (.ifCond .eq 20, 3) := by decide +kernel
theorem dX12_tryOf_55 : decode cX12_tryOf 55 = .ok (.iload 8, 2) := by decide +kernel
theorem dX12_tryOf_57 : decode cX12_tryOf 57 = .ok (.iload_n 1, 1) := by decide +kernel
theorem dX12_tryOf_58 : decode cX12_tryOf 58 = .ok (.iload 4, 2) := by decide +kernel
theorem dX12_tryOf_60 : decode cX12_tryOf 60 = .ok (.invokestatic 130, 3) := by decide +kernel
theorem dX12_tryOf_63 : decode cX12_tryOf 63 = .ok (.iload 6, 2) := by decide +kernel
theorem dX12_tryOf_65 : decode cX12_tryOf 65 = .ok (.if_icmp .ne 7, 3) := by decide +kernel
theorem dX12_tryOf_68 : decode cX12_tryOf 68 = .ok (.iconst 1, 1) := by decide +kernel
theorem dX12_tryOf_69 : decode cX12_tryOf 69 = .ok (.goto 4, 3) := by decide +kernel
theorem dX12_tryOf_72 : decode cX12_tryOf 72 = .ok (.iconst 0, 1) := by decide +kernel
theorem dX12_tryOf_73 : decode cX12_tryOf 73 = .ok (.iadd, 1) := by decide +kernel
theorem dX12_tryOf_74 : decode cX12_tryOf 74 = .ok (.istore 7, 2) := by decide +kernel
theorem dX12_tryOf_76 : decode cX12_tryOf 76 = .ok (.iinc 8 1, 3) := by decide +kernel
theorem dX12_tryOf_79 : decode cX12_tryOf 79 = .ok (.goto (-42), 3) := by decide +kernel
theorem dX12_tryOf_82 : decode cX12_tryOf 82 = .ok (.iload 7, 2) := by decide +kernel
theorem dX12_tryOf_84 : decode cX12_tryOf 84 = .ok (.iload 5, 2) := by decide +kernel
theorem dX12_tryOf_86 : decode cX12_tryOf 86 = .ok (.if_icmp .le 8, 3) := by decide +kernel
theorem dX12_tryOf_89 : decode cX12_tryOf 89 = .ok (.iload 7, 2) := by decide +kernel
theorem dX12_tryOf_91 : decode cX12_tryOf 91 = .ok (.goto 5, 3) := by decide +kernel
theorem dX12_tryOf_94 : decode cX12_tryOf 94 = .ok (.iload 5, 2) := by decide +kernel
theorem dX12_tryOf_96 : decode cX12_tryOf 96 = .ok (.istore 5, 2) := by decide +kernel
theorem dX12_tryOf_98 : decode cX12_tryOf 98 = .ok (.iinc 6 1, 3) := by decide +kernel
theorem dX12_tryOf_101 : decode cX12_tryOf 101 = .ok (.goto (-76), 3) := by decide +kernel
theorem dX12_tryOf_104 : decode cX12_tryOf 104 = .ok (.iload 5, 2) := by decide +kernel
theorem dX12_tryOf_106 : decode cX12_tryOf 106 = .ok (.iload_n 3, 1) := by decide +kernel
theorem dX12_tryOf_107 : decode cX12_tryOf 107 = .ok (.if_icmp .ge 8, 3) := by decide +kernel
theorem dX12_tryOf_110 : decode cX12_tryOf 110 = .ok (.iload 4, 2) := by decide +kernel
theorem dX12_tryOf_112 : decode cX12_tryOf 112 = .ok (.goto 4, 3) := by decide +kernel
theorem dX12_tryOf_115 : decode cX12_tryOf 115 = .ok (.iload_n 2, 1) := by decide +kernel
theorem dX12_tryOf_116 : decode cX12_tryOf 116 = .ok (.istore_n 2, 1) := by decide +kernel
theorem dX12_tryOf_117 : decode cX12_tryOf 117 = .ok (.iload_n 3, 1) := by decide +kernel
theorem dX12_tryOf_118 : decode cX12_tryOf 118 = .ok (.iload 5, 2) := by decide +kernel
theorem dX12_tryOf_120 : decode cX12_tryOf 120 = .ok (.invokestatic 126, 3) := by decide +kernel
theorem dX12_tryOf_123 : decode cX12_tryOf 123 = .ok (.istore_n 3, 1) := by decide +kernel
theorem dX12_tryOf_124 : decode cX12_tryOf 124 = .ok (.iinc 4 1, 3) := by decide +kernel
theorem dX12_tryOf_127 : decode cX12_tryOf 127 = .ok (.goto (-118), 3) := by decide +kernel
theorem dX12_tryOf_130 : decode cX12_tryOf 130 = .ok (.iload_n 2, 1) := by decide +kernel
theorem dX12_tryOf_131 : decode cX12_tryOf 131 = .ok (.ireturn, 1) := by decide +kernel
theorem dX12_wishes_0 : decode cX12_wishes 0 = .ok (.aload_n 0, 1) := by decide +kernel
theorem dX12_wishes_1 : decode cX12_wishes 1 = .ok (.getfield 7, 3) := by decide +kernel
theorem dX12_wishes_4 : decode cX12_wishes 4 = .ok (.iconst 0, 1) := by decide +kernel
theorem dX12_wishes_5 : decode cX12_wishes 5 = .ok (.iaload, 1) := by decide +kernel
theorem dX12_wishes_6 : decode cX12_wishes 6 = .ok (.ifCond .eq 11, 3) := by decide +kernel
theorem dX12_wishes_9 : decode cX12_wishes 9 = .ok (.iload_n 1, 1) := by decide +kernel
theorem dX12_wishes_10 : decode cX12_wishes 10 = .ok (.iload_n 2, 1) := by decide +kernel
theorem dX12_wishes_11 : decode cX12_wishes 11 = .ok (.invokestatic 225, 3) := by decide +kernel
theorem dX12_wishes_14 : decode cX12_wishes 14 = .ok (.ifCond .ne 5, 3) := by decide +kernel
theorem dX12_wishes_17 : decode cX12_wishes 17 = .ok (.iconst (-1), 1) := by decide +kernel
theorem dX12_wishes_18 : decode cX12_wishes 18 = .ok (.ireturn, 1) := by decide +kernel
theorem dX12_wishes_19 : decode cX12_wishes 19 = .ok (.aload_n 0, 1) := by decide +kernel
theorem dX12_wishes_20 : decode cX12_wishes 20 = .ok (.iload_n 1, 1) := by decide +kernel
theorem dX12_wishes_21 : decode cX12_wishes 21 = .ok (.iload_n 2, 1) := by decide +kernel
theorem dX12_wishes_22 : decode cX12_wishes 22 = .ok (.iload_n 3, 1) := by decide +kernel
theorem dX12_wishes_23 : decode cX12_wishes 23 = .ok (.aload_n 0, 1) := by decide +kernel
theorem dX12_wishes_24 : decode cX12_wishes 24 = .ok (.getfield 7, 3) := by decide +kernel
theorem dX12_wishes_27 : decode cX12_wishes 27 = .ok (.iconst 0, 1) := by decide +kernel
theorem dX12_wishes_28 : decode cX12_wishes 28 = .ok (.iaload, 1) := by decide +kernel
theorem dX12_wishes_29 : decode cX12_wishes 29 = .ok (.invokevirtual 228, 3) := by decide +kernel
theorem dX12_wishes_32 : decode cX12_wishes 32 = .ok (.istore 4, 2) := by decide +kernel
theorem dX12_wishes_34 : decode cX12_wishes 34 = .ok (.iload 4, 2) := by decide +kernel
theorem dX12_wishes_36 : decode cX12_wishes 36 = .ok (.ifCond .ge 6, 3) := by decide +kernel
theorem dX12_wishes_39 : decode cX12_wishes 39 = .ok (.iload 4, 2) := by decide +kernel
theorem dX12_wishes_41 : decode cX12_wishes 41 = .ok (.ireturn, 1) := by decide +kernel
theorem dX12_wishes_42 : decode cX12_wishes 42 = .ok (.iconst 0, 1) := by decide +kernel
theorem dX12_wishes_43 : decode cX12_wishes 43 = .ok (.istore 5, 2) := by decide +kernel
theorem dX12_wishes_45 : decode cX12_wishes 45 = .ok (.iconst 0, 1) := by decide +kernel
theorem dX12_wishes_46 : decode cX12_wishes 46 = .ok (.istore 6, 2) := by decide +kernel
theorem dX12_wishes_48 : decode cX12_wishes 48 = .ok (.iload 6, 2) := by decide +kernel
theorem dX12_wishes_50 : decode cX12_wishes 50 = .ok (.aload_n 0, 1) := by decide +kernel
theorem dX12_wishes_51 : decode cX12_wishes 51 = .ok (.getfield 7, 3) := by decide +kernel
theorem dX12_wishes_54 : decode cX12_wishes 54 = .ok (.iconst 0, 1) := by decide +kernel
theorem dX12_wishes_55 : decode cX12_wishes 55 = .ok (.iaload, 1) := by decide +kernel
theorem dX12_wishes_56 : decode cX12_wishes 56 = .ok (.if_icmp .ge 50, 3) := by decide +kernel
theorem dX12_wishes_59 : decode cX12_wishes 59 = .ok (.iload 5, 2) := by decide +kernel
theorem dX12_wishes_61 : decode cX12_wishes 61 = .ok (.aload_n 0, 1) := by decide +kernel
theorem dX12_wishes_62 : decode cX12_wishes 62 = .ok (.getfield 19, 3) := by decide +kernel
theorem dX12_wishes_65 : decode cX12_wishes 65 = .ok (.iload 6, 2) := by decide +kernel
theorem dX12_wishes_67 : decode cX12_wishes 67 = .ok (.invokestatic 115, 3) := by decide +kernel
theorem dX12_wishes_70 : decode cX12_wishes 70 = .ok (.i2l, 1) := by decide +kernel
theorem dX12_wishes_71 : decode cX12_wishes 71 = .ok (.aload_n 0, 1) := by decide +kernel
theorem dX12_wishes_72 : decode cX12_wishes 72 = .ok (.getfield 44, 3) := by decide +kernel
theorem dX12_wishes_75 : decode cX12_wishes 75 = .ok (.bipush 24, 2) := by decide +kernel
theorem dX12_wishes_77 : decode cX12_wishes 77 = .ok (.iload_n 1, 1) := by decide +kernel
theorem dX12_wishes_78 : decode cX12_wishes 78 = .ok (.imul, 1) := by decide +kernel
theorem dX12_wishes_79 : decode cX12_wishes 79 = .ok (.iload_n 3, 1) := by decide +kernel
theorem dX12_wishes_80 : decode cX12_wishes 80 = .ok (.iadd, 1) := by decide +kernel
theorem dX12_wishes_81 : decode cX12_wishes 81 = .ok (.iload 6, 2) := by decide +kernel
theorem dX12_wishes_83 : decode cX12_wishes 83 = .ok (.iadd, 1) := by decide +kernel
theorem dX12_wishes_84 : decode cX12_wishes 84 = .ok (.laload, 1) := by decide +kernel
theorem dX12_wishes_85 : decode cX12_wishes 85 = .ok (.lcmp, 1) := by decide +kernel
theorem dX12_wishes_86 : decode cX12_wishes 86 = .ok (.ifCond .ne 10, 3) := by decide +kernel
theorem dX12_wishes_89 : decode cX12_wishes 89 = .ok (.iconst 1, 1) := by decide +kernel
theorem dX12_wishes_90 : decode cX12_wishes 90 = .ok (.iload 6, 2) := by decide +kernel
theorem dX12_wishes_92 : decode cX12_wishes 92 = .ok (.ishl, 1) := by decide +kernel
theorem dX12_wishes_93 : decode cX12_wishes 93 = .ok (.goto 4, 3) := by decide +kernel
theorem dX12_wishes_96 : decode cX12_wishes 96 = .ok (.iconst 0, 1) := by decide +kernel
theorem dX12_wishes_97 : decode cX12_wishes 97 = .ok (.ior, 1) := by decide +kernel
theorem dX12_wishes_98 : decode cX12_wishes 98 = .ok (.istore 5, 2) := by decide +kernel
theorem dX12_wishes_100 : decode cX12_wishes 100 = .ok (.iinc 6 1, 3) := by decide +kernel
theorem dX12_wishes_103 : decode cX12_wishes 103 = .ok (.goto (-55), 3) := by decide +kernel
theorem dX12_wishes_106 : decode cX12_wishes 106 = .ok (.iload 5, 2) := by decide +kernel
theorem dX12_wishes_108 : decode cX12_wishes 108 = .ok (.ireturn, 1) := by decide +kernel
theorem dX12_count_0 : decode cX12_count 0 = .ok (.iload_n 1, 1) := by decide +kernel
theorem dX12_count_1 : decode cX12_count 1 = .ok (.tableswitch 135 0 8 #[51, 51, 51, 58, 63, 72, 116, 125, 130], 51) := by decide +kernel
theorem dX12_count_52 : decode cX12_count 52 = .ok (.aload_n 0, 1) := by decide +kernel
theorem dX12_count_53 : decode cX12_count 53 = .ok (.getfield 7, 3) := by decide +kernel
theorem dX12_count_56 : decode cX12_count 56 = .ok (.iload_n 1, 1) := by decide +kernel
theorem dX12_count_57 : decode cX12_count 57 = .ok (.iaload, 1) := by decide +kernel
theorem dX12_count_58 : decode cX12_count 58 = .ok (.ireturn, 1) := by decide +kernel
theorem dX12_count_59 : decode cX12_count 59 = .ok (.aload_n 0, 1) := by decide +kernel
theorem dX12_count_60 : decode cX12_count 60 = .ok (.getfield 109, 3) := by decide +kernel
theorem dX12_count_63 : decode cX12_count 63 = .ok (.ireturn, 1) := by decide +kernel
theorem dX12_count_64 : decode cX12_count 64 = .ok (.aload_n 0, 1) := by decide +kernel
theorem dX12_count_65 : decode cX12_count 65 = .ok (.aload_n 0, 1) := by decide +kernel
theorem dX12_count_66 : decode cX12_count 66 = .ok (.getfield 19, 3) := by decide +kernel
theorem dX12_count_69 : decode cX12_count 69 = .ok (.invokevirtual 182, 3) := by decide +kernel
theorem dX12_count_72 : decode cX12_count 72 = .ok (.ireturn, 1) := by decide +kernel
theorem dX12_count_73 : decode cX12_count 73 = .ok (.iconst 0, 1) := by decide +kernel
theorem dX12_count_74 : decode cX12_count 74 = .ok (.istore_n 2, 1) := by decide +kernel
theorem dX12_count_75 : decode cX12_count 75 = .ok (.iconst 0, 1) := by decide +kernel
theorem dX12_count_76 : decode cX12_count 76 = .ok (.istore_n 3, 1) := by decide +kernel
theorem dX12_count_77 : decode cX12_count 77 = .ok (.iload_n 3, 1) := by decide +kernel
theorem dX12_count_78 : decode cX12_count 78 = .ok (.aload_n 0, 1) := by decide +kernel
theorem dX12_count_79 : decode cX12_count 79 = .ok (.getfield 7, 3) := by decide +kernel
theorem dX12_count_82 : decode cX12_count 82 = .ok (.iconst 0, 1) := by decide +kernel
theorem dX12_count_83 : decode cX12_count 83 = .ok (.iaload, 1) := by decide +kernel
theorem dX12_count_84 : decode cX12_count 84 = .ok (.if_icmp .ge 31, 3) := by decide +kernel
theorem dX12_count_87 : decode cX12_count 87 = .ok (.iload_n 2, 1) := by decide +kernel
theorem dX12_count_88 : decode cX12_count 88 = .ok (.aload_n 0, 1) := by decide +kernel
theorem dX12_count_89 : decode cX12_count 89 = .ok (.getfield 19, 3) := by decide +kernel
theorem dX12_count_92 : decode cX12_count 92 = .ok (.bipush 24, 2) := by decide +kernel
theorem dX12_count_94 : decode cX12_count 94 = .ok (.iload_n 3, 1) := by decide +kernel
theorem dX12_count_95 : decode cX12_count 95 = .ok (.iadd, 1) := by decide +kernel
theorem dX12_count_96 : decode cX12_count 96 = .ok (.iaload, 1) := by decide +kernel
theorem dX12_count_97 : decode cX12_count 97 = .ok (.ifCond .le 9, 3) := by decide +kernel
theorem dX12_count_100 : decode cX12_count 100 = .ok (.iconst 1, 1) := by decide +kernel
theorem dX12_count_101 : decode cX12_count 101 = .ok (.iload_n 3, 1) := by decide +kernel
theorem dX12_count_102 : decode cX12_count 102 = .ok (.ishl, 1) := by decide +kernel
theorem dX12_count_103 : decode cX12_count 103 = .ok (.goto 4, 3) := by decide +kernel
theorem dX12_count_106 : decode cX12_count 106 = .ok (.iconst 0, 1) := by decide +kernel
theorem dX12_count_107 : decode cX12_count 107 = .ok (.ior, 1) := by decide +kernel
theorem dX12_count_108 : decode cX12_count 108 = .ok (.istore_n 2, 1) := by decide +kernel
theorem dX12_count_109 : decode cX12_count 109 = .ok (.iinc 3 1, 3) := by decide +kernel
theorem dX12_count_112 : decode cX12_count 112 = .ok (.goto (-35), 3) := by decide +kernel
theorem dX12_count_115 : decode cX12_count 115 = .ok (.iload_n 2, 1) := by decide +kernel
theorem dX12_count_116 : decode cX12_count 116 = .ok (.ireturn, 1) := by decide +kernel
theorem dX12_count_117 : decode cX12_count 117 = .ok (.aload_n 0, 1) := by decide +kernel
theorem dX12_count_118 : decode cX12_count 118 = .ok (.aload_n 0, 1) := by decide +kernel
theorem dX12_count_119 : decode cX12_count 119 = .ok (.getfield 19, 3) := by decide +kernel
theorem dX12_count_122 : decode cX12_count 122 = .ok (.invokevirtual 222, 3) := by decide +kernel
theorem dX12_count_125 : decode cX12_count 125 = .ok (.ireturn, 1) := by decide +kernel
theorem dX12_count_126 : decode cX12_count 126 = .ok (.aload_n 0, 1) := by decide +kernel
theorem dX12_count_127 : decode cX12_count 127 = .ok (.getfield 112, 3) := by decide +kernel
theorem dX12_count_130 : decode cX12_count 130 = .ok (.ireturn, 1) := by decide +kernel
theorem dX12_count_131 : decode cX12_count 131 = .ok (.aload_n 0, 1) := by decide +kernel
theorem dX12_count_132 : decode cX12_count 132 = .ok (.getfield 63, 3) := by decide +kernel
theorem dX12_count_135 : decode cX12_count 135 = .ok (.ireturn, 1) := by decide +kernel
theorem dX12_count_136 : decode cX12_count 136 = .ok (.iconst (-1), 1) := by decide +kernel
theorem dX12_count_137 : decode cX12_count 137 = .ok (.ireturn, 1) := by decide +kernel
