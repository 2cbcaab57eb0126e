theorem dX12_laysAside_0 : decode cX12_laysAside 0 = .ok (.aload_n 0, 1) := by decide +kernel
theorem dX12_laysAside_1 : decode cX12_laysAside 1 = .ok (.getfield 19, 3) := by decide +kernel
theorem dX12_laysAside_4 : decode cX12_laysAside 4 = .ok (.iconst 0, 1) := by decide +kernel
theorem dX12_laysAside_5 : decode cX12_laysAside 5 = .ok (.aload_n 0, 1) := by decide +kernel
theorem dX12_laysAside_6 : decode cX12_laysAside 6 = .ok (.getfield 22, 3) := by decide +kernel
theorem dX12_laysAside_9 : decode cX12_laysAside 9 = .ok (.iconst 0, 1) := by decide +kernel
theorem dX12_laysAside_10 : decode cX12_laysAside 10 = .ok (.bipush 40, 2) := by decide +kernel
theorem dX12_laysAside_12 : decode cX12_laysAside 12 = .ok (.invokestatic 105, 3) := by decide +kernel
theorem dX12_laysAside_15 : decode cX12_laysAside 15 = .ok (.return_, 1) := by decide +kernel
theorem dX12_doingsThere_0 : decode cX12_doingsThere 0 = .ok (.aload_n 0, 1) := by decide +kernel
theorem dX12_doingsThere_1 : decode cX12_doingsThere 1 = .ok (.getfield 7, 3) := by decide +kernel
theorem dX12_doingsThere_4 : decode cX12_doingsThere 4 = .ok (.iconst 1, 1) := by decide +kernel
theorem dX12_doingsThere_5 : decode cX12_doingsThere 5 = .ok (.iaload, 1) := by decide +kernel
theorem dX12_doingsThere_6 : decode cX12_doingsThere 6 = .ok (.aload_n 0, 1) := by decide +kernel
theorem dX12_doingsThere_7 : decode cX12_doingsThere 7 = .ok (.getfield 7, 3) := by decide +kernel
theorem dX12_doingsThere_10 : decode cX12_doingsThere 10 = .ok (.iconst 2, 1) := by decide +kernel
theorem dX12_doingsThere_11 : decode cX12_doingsThere 11 = .ok (.iaload, 1) := by decide +kernel
theorem dX12_doingsThere_12 : decode cX12_doingsThere 12 = .ok (.iadd, 1) := by decide +kernel
theorem dX12_doingsThere_13 : decode cX12_doingsThere 13 = .ok (.iconst 2, 1) := by decide +kernel
theorem dX12_doingsThere_14 : decode cX12_doingsThere 14 = .ok (.iadd, 1) := by decide +kernel
theorem dX12_doingsThere_15 : decode cX12_doingsThere 15 = .ok (.ireturn, 1) := by decide +kernel
theorem dX12_doingOf_0 : decode cX12_doingOf 0 = .ok (.aload_n 0, 1) := by decide +kernel
theorem dX12_doingOf_1 : decode cX12_doingOf 1 = .ok (.getfield 7, 3) := by decide +kernel
theorem dX12_doingOf_4 : decode cX12_doingOf 4 = .ok (.iconst 1, 1) := by decide +kernel
theorem dX12_doingOf_5 : decode cX12_doingOf 5 = .ok (.iaload, 1) := by decide +kernel
theorem dX12_doingOf_6 : decode cX12_doingOf 6 = .ok (.istore_n 2, 1) := by decide +kernel
theorem dX12_doingOf_7 : decode cX12_doingOf 7 = .ok (.aload_n 0, 1) := by decide +kernel
theorem dX12_doingOf_8 : decode cX12_doingOf 8 = .ok (.getfield 7, 3) := by decide +kernel
theorem dX12_doingOf_11 : decode cX12_doingOf 11 = .ok (.iconst 2, 1) := by decide +kernel
theorem dX12_doingOf_12 : decode cX12_doingOf 12 = .ok (.iaload, 1) := by decide +kernel
theorem dX12_doingOf_13 : decode cX12_doingOf 13 = .ok (.istore_n 3, 1) := by decide +kernel
theorem dX12_doingOf_14 : decode cX12_doingOf 14 = .ok (.iload_n 1, 1) := by decide +kernel
theorem dX12_doingOf_15 : decode cX12_doingOf 15 = .ok (.iload_n 2, 1) := by decide +kernel
theorem dX12_doingOf_16 : decode cX12_doingOf 16 = .ok (.if_icmp .ge 7, 3) := by decide +kernel
theorem dX12_doingOf_19 : decode cX12_doingOf 19 = .ok (.iload_n 1, 1) := by decide +kernel
theorem dX12_doingOf_20 : decode cX12_doingOf 20 = .ok (.goto 27, 3) := by decide +kernel
theorem dX12_doingOf_23 : decode cX12_doingOf 23 = .ok (.iload_n 1, 1) := by decide +kernel
theorem dX12_doingOf_24 : decode cX12_doingOf 24 = .ok (.iload_n 2, 1) := by decide +kernel
theorem dX12_doingOf_25 : decode cX12_doingOf 25 = .ok (.iload_n 3, 1) := by decide +kernel
theorem dX12_doingOf_26 : decode cX12_doingOf 26 = .ok (.iadd, 1) := by decide +kernel
theorem dX12_doingOf_27 : decode cX12_doingOf 27 = .ok (.if_icmp .ge 12, 3) := by decide +kernel
theorem dX12_doingOf_30 : decode cX12_doingOf 30 = .ok (.bipush 10, 2) := by decide +kernel
theorem dX12_doingOf_32 : decode cX12_doingOf 32 = .ok (.iload_n 1, 1) := by decide +kernel
theorem dX12_doingOf_33 : decode cX12_doingOf 33 = .ok (.iadd, 1) := by decide +kernel
theorem dX12_doingOf_34 : decode cX12_doingOf 34 = .ok (.iload_n 2, 1) := by decide +kernel
theorem dX12_doingOf_35 : decode cX12_doingOf 35 = .ok (.isub, 1) := by decide +kernel
theorem dX12_doingOf_36 : decode cX12_doingOf 36 = .ok (.goto 11, 3) := by decide +kernel
theorem dX12_doingOf_39 : decode cX12_doingOf 39 = .ok (.bipush 20, 2) := by decide +kernel
theorem dX12_doingOf_41 : decode cX12_doingOf 41 = .ok (.iload_n 1, 1) := by decide +kernel
theorem dX12_doingOf_42 : decode cX12_doingOf 42 = .ok (.iadd, 1) := by decide +kernel
theorem dX12_doingOf_43 : decode cX12_doingOf 43 = .ok (.iload_n 2, 1) := by decide +kernel
theorem dX12_doingOf_44 : decode cX12_doingOf 44 = .ok (.isub, 1) := by decide +kernel
theorem dX12_doingOf_45 : decode cX12_doingOf 45 = .ok (.iload_n 3, 1) := by decide +kernel
theorem dX12_doingOf_46 : decode cX12_doingOf 46 = .ok (.isub, 1) := by decide +kernel
theorem dX12_doingOf_47 : decode cX12_doingOf 47 = .ok (.ireturn, 1) := by decide +kernel
theorem dX12_plan_0 : decode cX12_plan 0 = .ok (.iload_n 1, 1) := by decide +kernel
theorem dX12_plan_1 : decode cX12_plan 1 = .ok (.i2l, 1) := by decide +kernel
theorem dX12_plan_2 : decode cX12_plan 2 = .ok (.lconst 0, 1) := by decide +kernel
theorem dX12_plan_3 : decode cX12_plan 3 = .ok (.ldc2_w 188, 3) := by decide +kernel
theorem dX12_plan_6 : decode cX12_plan 6 = .ok (.invokestatic 59, 3) := by decide +kernel
theorem dX12_plan_9 : decode cX12_plan 9 = .ok (.ifCond .eq 9, 3) := by decide +kernel
theorem dX12_plan_12 : decode cX12_plan 12 = .ok (.iload_n 2, 1) := by decide +kernel
theorem dX12_plan_13 : decode cX12_plan 13 = .ok (.bipush (-2), 2) := by decide +kernel
theorem dX12_plan_15 : decode cX12_plan 15 = .ok (.if_icmp .ge 5, 3) := by decide +kernel
theorem dX12_plan_18 : decode cX12_plan 18 = .ok (.iconst (-1), 1) := by decide +kernel
theorem dX12_plan_19 : decode cX12_plan 19 = .ok (.ireturn, 1) := by decide +kernel
theorem dX12_plan_20 : decode cX12_plan 20 = .ok (.aload_n 0, 1) := by decide +kernel
theorem dX12_plan_21 : decode cX12_plan 21 = .ok (.getfield 7, 3) := by decide +kernel
theorem dX12_plan_24 : decode cX12_plan 24 = .ok (.iconst 0, 1) := by decide +kernel
theorem dX12_plan_25 : decode cX12_plan 25 = .ok (.iaload, 1) := by decide +kernel
theorem dX12_plan_26 : decode cX12_plan 26 = .ok (.ifCond .ne 6, 3) := by decide +kernel
theorem dX12_plan_29 : decode cX12_plan 29 = .ok (.bipush (-2), 2) := by decide +kernel
theorem dX12_plan_31 : decode cX12_plan 31 = .ok (.ireturn, 1) := by decide +kernel
theorem dX12_plan_32 : decode cX12_plan 32 = .ok (.aload_n 0, 1) := by decide +kernel
theorem dX12_plan_33 : decode cX12_plan 33 = .ok (.invokevirtual 190, 3) := by decide +kernel
theorem dX12_plan_36 : decode cX12_plan 36 = .ok (.istore_n 3, 1) := by decide +kernel
theorem dX12_plan_37 : decode cX12_plan 37 = .ok (.iconst (-1), 1) := by decide +kernel
theorem dX12_plan_38 : decode cX12_plan 38 = .ok (.istore 4, 2) := by decide +kernel
theorem dX12_plan_40 : decode cX12_plan 40 = .ok (.iconst 0, 1) := by decide +kernel
theorem dX12_plan_41 : decode cX12_plan 41 = .ok (.istore 5, 2) := by decide +kernel
theorem dX12_plan_43 : decode cX12_plan 43 = .ok (.iconst 0, 1) := by decide +kernel
theorem dX12_plan_44 : decode cX12_plan 44 = .ok (.istore 6, 2) := by decide +kernel
theorem dX12_plan_46 : decode cX12_plan 46 = .ok (.iconst 1, 1) := by decide +kernel
theorem dX12_plan_47 : decode cX12_plan 47 = .ok (.istore 7, 2) := by decide +kernel
theorem dX12_plan_49 : decode cX12_plan 49 = .ok (.iconst 0, 1) := by decide +kernel
theorem dX12_plan_50 : decode cX12_plan 50 = .ok (.istore 8, 2) := by decide +kernel
theorem dX12_plan_52 : decode cX12_plan 52 = .ok (.iload 8, 2) := by decide +kernel
theorem dX12_plan_54 : decode cX12_plan 54 = .ok (.iload_n 1, 1) := by decide +kernel
theorem dX12_plan_55 : decode cX12_plan 55 = .ok (.if_icmp .gt 106, 3) := by decide +kernel
theorem dX12_plan_58 : decode cX12_plan 58 = .ok (.iconst 0, 1) := by decide +kernel
theorem dX12_plan_59 : decode cX12_plan 59 = .ok (.istore 9, 2) := by decide +kernel
theorem dX12_plan_61 : decode cX12_plan 61 = .ok (.iload 9, 2) := by decide +kernel
theorem dX12_plan_63 : decode cX12_plan 63 = .ok (.iload 7, 2) := by decide +kernel
theorem dX12_plan_65 : decode cX12_plan 65 = .ok (.if_icmp .ge 84, 3) := by decide +kernel
theorem dX12_plan_68 : decode cX12_plan 68 = .ok (.aload_n 0, 1) := by decide +kernel
theorem dX12_plan_69 : decode cX12_plan 69 = .ok (.invokevirtual 193, 3) := by decide +kernel
theorem dX12_plan_72 : decode cX12_plan 72 = .ok (.iload 7, 2) := by decide +kernel
theorem dX12_plan_74 : decode cX12_plan 74 = .ok (.iload_n 3, 1) := by decide +kernel
theorem dX12_plan_75 : decode cX12_plan 75 = .ok (.idiv, 1) := by decide +kernel
theorem dX12_plan_76 : decode cX12_plan 76 = .ok (.istore 10, 2) := by decide +kernel
theorem dX12_plan_78 : decode cX12_plan 78 = .ok (.iload 10, 2) := by decide +kernel
theorem dX12_plan_80 : decode cX12_plan 80 = .ok (.ifCond .le 31, 3) := by decide +kernel
theorem dX12_plan_83 : decode cX12_plan 83 = .ok (.aload_n 0, 1) := by decide +kernel
theorem dX12_plan_84 : decode cX12_plan 84 = .ok (.aload_n 0, 1) := by decide +kernel
theorem dX12_plan_85 : decode cX12_plan 85 = .ok (.getfield 22, 3) := by decide +kernel
theorem dX12_plan_88 : decode cX12_plan 88 = .ok (.aload_n 0, 1) := by decide +kernel
theorem dX12_plan_89 : decode cX12_plan 89 = .ok (.iload 9, 2) := by decide +kernel
theorem dX12_plan_91 : decode cX12_plan 91 = .ok (.iload 10, 2) := by decide +kernel
theorem dX12_plan_93 : decode cX12_plan 93 = .ok (.idiv, 1) := by decide +kernel
theorem dX12_plan_94 : decode cX12_plan 94 = .ok (.iload_n 3, 1) := by decide +kernel
theorem dX12_plan_95 : decode cX12_plan 95 = .ok (.irem, 1) := by decide +kernel
theorem dX12_plan_96 : decode cX12_plan 96 = .ok (.invokevirtual 196, 3) := by decide +kernel
theorem dX12_plan_99 : decode cX12_plan 99 = .ok (.invokevirtual 179, 3) := by decide +kernel
theorem dX12_plan_102 : decode cX12_plan 102 = .ok (.iload 10, 2) := by decide +kernel
theorem dX12_plan_104 : decode cX12_plan 104 = .ok (.iload_n 3, 1) := by decide +kernel
theorem dX12_plan_105 : decode cX12_plan 105 = .ok (.idiv, 1) := by decide +kernel
theorem dX12_plan_106 : decode cX12_plan 106 = .ok (.istore 10, 2) := by decide +kernel
theorem dX12_plan_108 : decode cX12_plan 108 = .ok (.goto (-30), 3) := by decide +kernel
theorem dX12_plan_111 : decode cX12_plan 111 = .ok (.aload_n 0, 1) := by decide +kernel
theorem dX12_plan_112 : decode cX12_plan 112 = .ok (.aload_n 0, 1) := by decide +kernel
theorem dX12_plan_113 : decode cX12_plan 113 = .ok (.getfield 22, 3) := by decide +kernel
theorem dX12_plan_116 : decode cX12_plan 116 = .ok (.invokevirtual 182, 3) := by decide +kernel
theorem dX12_plan_119 : decode cX12_plan 119 = .ok (.invokestatic 199, 3) := by decide +kernel
theorem dX12_plan_122 : decode cX12_plan 122 = .ok (.istore 10, 2) := by decide +kernel
theorem dX12_plan_124 : decode cX12_plan 124 = .ok (.iload 10, 2) := by decide +kernel
theorem dX12_plan_126 : decode cX12_plan 126 = .ok (.iload 4, 2) := by decide +kernel
theorem dX12_plan_128 : decode cX12_plan 128 = .ok (.if_icmp .le 15, 3) := by decide +kernel
theorem dX12_plan_131 : decode cX12_plan 131 = .ok (.iload 10, 2) := by decide +kernel
theorem dX12_plan_133 : decode cX12_plan 133 = .ok (.istore 4, 2) := by decide +kernel
theorem dX12_plan_135 : decode cX12_plan 135 = .ok (.iload 9, 2) := by decide +kernel
theorem dX12_plan_137 : decode cX12_plan 137 = .ok (.istore 5, 2) := by decide +kernel
theorem dX12_plan_139 : decode cX12_plan 139 = .ok (.iload 8, 2) := by decide +kernel
theorem dX12_plan_141 : decode cX12_plan 141 = .ok (.istore 6, 2) := by decide +kernel
theorem dX12_plan_143 : decode cX12_plan 143 = .ok (.iinc 9 1, 3) := by decide +kernel
theorem dX12_plan_146 : decode cX12_plan 146 = .ok (.goto (-85), 3) := by decide +kernel
theorem dX12_plan_149 : decode cX12_plan 149 = .ok (.iload 7, 2) := by decide +kernel
theorem dX12_plan_151 : decode cX12_plan 151 = .ok (.iload_n 3, 1) := by decide +kernel
theorem dX12_plan_152 : decode cX12_plan 152 = .ok (.imul, 1) := by decide +kernel
theorem dX12_plan_153 : decode cX12_plan 153 = .ok (.istore 7, 2) := by decide +kernel
theorem dX12_plan_155 : decode cX12_plan 155 = .ok (.iinc 8 1, 3) := by decide +kernel
theorem dX12_plan_158 : decode cX12_plan 158 = .ok (.goto (-106), 3) := by decide +kernel
theorem dX12_plan_161 : decode cX12_plan 161 = .ok (.iload_n 2, 1) := by decide +kernel
theorem dX12_plan_162 : decode cX12_plan 162 = .ok (.ifCond .ge 17, 3) := by decide +kernel
theorem dX12_plan_165 : decode cX12_plan 165 = .ok (.iload_n 2, 1) := by decide +kernel
theorem dX12_plan_166 : decode cX12_plan 166 = .ok (.bipush (-2), 2) := by decide +kernel
theorem dX12_plan_168 : decode cX12_plan 168 = .ok (.if_icmp .ne 8, 3) := by decide +kernel
theorem dX12_plan_171 : decode cX12_plan 171 = .ok (.iload 4, 2) := by decide +kernel
theorem dX12_plan_173 : decode cX12_plan 173 = .ok (.goto 5, 3) := by decide +kernel
theorem dX12_plan_176 : decode cX12_plan 176 = .ok (.iload 6, 2) := by decide +kernel
theorem dX12_plan_178 : decode cX12_plan 178 = .ok (.ireturn, 1) := by decide +kernel
theorem dX12_plan_179 : decode cX12_plan 179 = .ok (.iload_n 2, 1) := by decide +kernel
theorem dX12_plan_180 : decode cX12_plan 180 = .ok (.iload 6, 2) := by decide +kernel
theorem dX12_plan_182 : decode cX12_plan 182 = .ok (.if_icmp .lt 6, 3) := by decide +kernel
theorem dX12_plan_185 : decode cX12_plan 185 = .ok (.bipush (-4), 2) := by decide +kernel
theorem dX12_plan_187 : decode cX12_plan 187 = .ok (.ireturn, 1) := by decide +kernel
theorem dX12_plan_188 : decode cX12_plan 188 = .ok (.iload 6, 2) := by decide +kernel
theorem dX12_plan_190 : decode cX12_plan 190 = .ok (.iconst 1, 1) := by decide +kernel
theorem dX12_plan_191 : decode cX12_plan 191 = .ok (.isub, 1) := by decide +kernel
theorem dX12_plan_192 : decode cX12_plan 192 = .ok (.istore 8, 2) := by decide +kernel
theorem dX12_plan_194 : decode cX12_plan 194 = .ok (.iload 8, 2) := by decide +kernel
theorem dX12_plan_196 : decode cX12_plan 196 = .ok (.iload_n 2, 1) := by decide +kernel
theorem dX12_plan_197 : decode cX12_plan 197 = .ok (.if_icmp .le 15, 3) := by decide +kernel
theorem dX12_plan_200 : decode cX12_plan 200 = .ok (.iload 5, 2) := by decide +kernel
theorem dX12_plan_202 : decode cX12_plan 202 = .ok (.iload_n 3, 1) := by decide +kernel
theorem dX12_plan_203 : decode cX12_plan 203 = .ok (.idiv, 1) := by decide +kernel
theorem dX12_plan_204 : decode cX12_plan 204 = .ok (.istore 5, 2) := by decide +kernel
theorem dX12_plan_206 : decode cX12_plan 206 = .ok (.iinc 8 (-1), 3) := by decide +kernel
theorem dX12_plan_209 : decode cX12_plan 209 = .ok (.goto (-15), 3) := by decide +kernel
theorem dX12_plan_212 : decode cX12_plan 212 = .ok (.aload_n 0, 1) := by decide +kernel
theorem dX12_plan_213 : decode cX12_plan 213 = .ok (.iload 5, 2) := by decide +kernel
theorem dX12_plan_215 : decode cX12_plan 215 = .ok (.iload_n 3, 1) := by decide +kernel
theorem dX12_plan_216 : decode cX12_plan 216 = .ok (.irem, 1) := by decide +kernel
theorem dX12_plan_217 : decode cX12_plan 217 = .ok (.invokevirtual 196, 3) := by decide +kernel
theorem dX12_plan_220 : decode cX12_plan 220 = .ok (.ireturn, 1) := by decide +kernel
theorem dX12_whitens_0 : decode cX12_whitens 0 = .ok (.iconst 0, 1) := by decide +kernel
theorem dX12_whitens_1 : decode cX12_whitens 1 = .ok (.istore_n 2, 1) := by decide +kernel
theorem dX12_whitens_2 : decode cX12_whitens 2 = .ok (.iload_n 2, 1) := by decide +kernel
theorem dX12_whitens_3 : decode cX12_whitens 3 = .ok (.iconst 3, 1) := by decide +kernel
theorem dX12_whitens_4 : decode cX12_whitens 4 = .ok (.if_icmp .ge 22, 3) := by decide +kernel
theorem dX12_whitens_7 : decode cX12_whitens 7 = .ok (.aload_n 0, 1) := by decide +kernel
theorem dX12_whitens_8 : decode cX12_whitens 8 = .ok (.getfield 22, 3) := by decide +kernel
theorem dX12_whitens_11 : decode cX12_whitens 11 = .ok (.iconst 0, 1) := by decide +kernel
theorem dX12_whitens_12 : decode cX12_whitens 12 = .ok (.iconst 3, 1) := by decide +kernel
theorem dX12_whitens_13 : decode cX12_whitens 13 = .ok (.iload_n 1, 1) := by decide +kernel
theorem dX12_whitens_14 : decode cX12_whitens 14 = .ok (.imul, 1) := by decide +kernel
theorem dX12_whitens_15 : decode cX12_whitens 15 = .ok (.iadd, 1) := by decide +kernel
theorem dX12_whitens_16 : decode cX12_whitens 16 = .ok (.iload_n 2, 1) := by decide +kernel
theorem dX12_whitens_17 : decode cX12_whitens 17 = .ok (.iadd, 1) := by decide +kernel
theorem dX12_whitens_18 : decode cX12_whitens 18 = .ok (.iconst 0, 1) := by decide +kernel
theorem dX12_whitens_19 : decode cX12_whitens 19 = .ok (.iastore, 1) := by decide +kernel
theorem dX12_whitens_20 : decode cX12_whitens 20 = .ok (.iinc 2 1, 3) := by decide +kernel
theorem dX12_whitens_23 : decode cX12_whitens 23 = .ok (.goto (-21), 3) := by decide +kernel
theorem dX12_whitens_26 : decode cX12_whitens 26 = .ok (.aload_n 0, 1) := by decide +kernel
theorem dX12_whitens_27 : decode cX12_whitens 27 = .ok (.getfield 22, 3) := by decide +kernel
theorem dX12_whitens_30 : decode cX12_whitens 30 = .ok (.bipush 24, 2) := by decide +kernel
theorem dX12_whitens_32 : decode cX12_whitens 32 = .ok (.iload_n 1, 1) := by decide +kernel
theorem dX12_whitens_33 : decode cX12_whitens 33 = .ok (.iadd, 1) := by decide +kernel
theorem dX12_whitens_34 : decode cX12_whitens 34 = .ok (.iconst 0, 1) := by decide +kernel
theorem dX12_whitens_35 : decode cX12_whitens 35 = .ok (.iastore, 1) := by decide +kernel
theorem dX12_whitens_36 : decode cX12_whitens 36 = .ok (.return_, 1) := by decide +kernel
theorem dX12_power_0 : decode cX12_power 0 = .ok (.iconst 1, 1) := by decide +kernel
theorem dX12_power_1 : decode cX12_power 1 = .ok (.istore_n 2, 1) := by decide +kernel
theorem dX12_power_2 : decode cX12_power 2 = .ok (.iconst 0, 1) := by decide +kernel
theorem dX12_power_3 : decode cX12_power 3 = .ok (.istore_n 3, 1) := by decide +kernel
theorem dX12_power_4 : decode cX12_power 4 = .ok (.iload_n 3, 1) := by decide +kernel
theorem dX12_power_5 : decode cX12_power 5 = .ok (.iload_n 1, 1) := by decide +kernel
theorem dX12_power_6 : decode cX12_power 6 = .ok (.if_icmp .ge 13, 3) := by decide +kernel
theorem dX12_power_9 : decode cX12_power 9 = .ok (.iload_n 2, 1) := by decide +kernel
theorem dX12_power_10 : decode cX12_power 10 = .ok (.iload_n 0, 1) := by decide +kernel
theorem dX12_power_11 : decode cX12_power 11 = .ok (.imul, 1) := by decide +kernel
theorem dX12_power_12 : decode cX12_power 12 = .ok (.istore_n 2, 1) := by decide +kernel
theorem dX12_power_13 : decode cX12_power 13 = .ok (.iinc 3 1, 3) := by decide +kernel
theorem dX12_power_16 : decode cX12_power 16 = .ok (.goto (-12), 3) := by decide +kernel
theorem dX12_power_19 : decode cX12_power 19 = .ok (.iload_n 2, 1) := by decide +kernel
theorem dX12_power_20 : decode cX12_power 20 = .ok (.ireturn, 1) := by decide +kernel
theorem dX12_shadeOf_0 : decode cX12_shadeOf 0 = .ok (.aload_n 0, 1) := by decide +kernel
theorem dX12_shadeOf_1 : decode cX12_shadeOf 1 = .ok (.iload_n 1, 1) := by decide +kernel
theorem dX12_shadeOf_2 : decode cX12_shadeOf 2 = .ok (.invokevirtual 202, 3) := by decide +kernel
theorem dX12_shadeOf_5 : decode cX12_shadeOf 5 = .ok (.iload_n 3, 1) := by decide +kernel
theorem dX12_shadeOf_6 : decode cX12_shadeOf 6 = .ok (.iconst 1, 1) := by decide +kernel
theorem dX12_shadeOf_7 : decode cX12_shadeOf 7 = .ok (.isub, 1) := by decide +kernel
theorem dX12_shadeOf_8 : decode cX12_shadeOf 8 = .ok (.istore 4, 2) := by decide +kernel
theorem dX12_shadeOf_10 : decode cX12_shadeOf 10 = .ok (.iload 4, 2) := by decide +kernel
theorem dX12_shadeOf_12 : decode cX12_shadeOf 12 = .ok (.ifCond .lt 38, 3) := by decide +kernel
theorem dX12_shadeOf_15 : decode cX12_shadeOf 15 = .ok (.aload_n 0, 1) := by decide +kernel
theorem dX12_shadeOf_16 : decode cX12_shadeOf 16 = .ok (.aload_n 0, 1) := by decide +kernel
theorem dX12_shadeOf_17 : decode cX12_shadeOf 17 = .ok (.getfield 22, 3) := by decide +kernel
theorem dX12_shadeOf_20 : decode cX12_shadeOf 20 = .ok (.iload_n 1, 1) := by decide +kernel
theorem dX12_shadeOf_21 : decode cX12_shadeOf 21 = .ok (.iload_n 2, 1) := by decide +kernel
theorem dX12_shadeOf_22 : decode cX12_shadeOf 22 = .ok (.aload_n 0, 1) := by decide +kernel
theorem dX12_shadeOf_23 : decode cX12_shadeOf 23 = .ok (.getfield 7, 3) := by decide +kernel
theorem dX12_shadeOf_26 : decode cX12_shadeOf 26 = .ok (.iconst 1, 1) := by decide +kernel
theorem dX12_shadeOf_27 : decode cX12_shadeOf 27 = .ok (.iaload, 1) := by decide +kernel
theorem dX12_shadeOf_28 : decode cX12_shadeOf 28 = .ok (.iload 4, 2) := by decide +kernel
theorem dX12_shadeOf_30 : decode cX12_shadeOf 30 = .ok (.invokestatic 206, 3) := by decide +kernel
theorem dX12_shadeOf_33 : decode cX12_shadeOf 33 = .ok (.idiv, 1) := by decide +kernel
theorem dX12_shadeOf_34 : decode cX12_shadeOf 34 = .ok (.aload_n 0, 1) := by decide +kernel
theorem dX12_shadeOf_35 : decode cX12_shadeOf 35 = .ok (.getfield 7, 3) := by decide +kernel
theorem dX12_shadeOf_38 : decode cX12_shadeOf 38 = .ok (.iconst 1, 1) := by decide +kernel
theorem dX12_shadeOf_39 : decode cX12_shadeOf 39 = .ok (.iaload, 1) := by decide +kernel
theorem dX12_shadeOf_40 : decode cX12_shadeOf 40 = .ok (.irem, 1) := by decide +kernel
theorem dX12_shadeOf_41 : decode cX12_shadeOf 41 = .ok (.invokevirtual 147, 3) := by decide +kernel
theorem dX12_shadeOf_44 : decode cX12_shadeOf 44 = .ok (.iinc 4 (-1), 3) := by decide +kernel
theorem dX12_shadeOf_47 : decode cX12_shadeOf 47 = .ok (.goto (-37), 3) := by decide +kernel
theorem dX12_shadeOf_50 : decode cX12_shadeOf 50 = .ok (.iconst 0, 1) := by decide +kernel
theorem dX12_shadeOf_51 : decode cX12_shadeOf 51 = .ok (.iconst 3, 1) := by decide +kernel
theorem dX12_shadeOf_52 : decode cX12_shadeOf 52 = .ok (.iload_n 1, 1) := by decide +kernel
theorem dX12_shadeOf_53 : decode cX12_shadeOf 53 = .ok (.imul, 1) := by decide +kernel
theorem dX12_shadeOf_54 : decode cX12_shadeOf 54 = .ok (.iadd, 1) := by decide +kernel
theorem dX12_shadeOf_55 : decode cX12_shadeOf 55 = .ok (.istore 4, 2) := by decide +kernel
theorem dX12_shadeOf_57 : decode cX12_shadeOf 57 = .ok (.bipush 100, 2) := by decide +kernel
theorem dX12_shadeOf_59 : decode cX12_shadeOf 59 = .ok (.aload_n 0, 1) := by decide +kernel
theorem dX12_shadeOf_60 : decode cX12_shadeOf 60 = .ok (.getfield 22, 3) := by decide +kernel
theorem dX12_shadeOf_63 : decode cX12_shadeOf 63 = .ok (.iload 4, 2) := by decide +kernel
theorem dX12_shadeOf_65 : decode cX12_shadeOf 65 = .ok (.iaload, 1) := by decide +kernel
theorem dX12_shadeOf_66 : decode cX12_shadeOf 66 = .ok (.imul, 1) := by decide +kernel
theorem dX12_shadeOf_67 : decode cX12_shadeOf 67 = .ok (.bipush 10, 2) := by decide +kernel
theorem dX12_shadeOf_69 : decode cX12_shadeOf 69 = .ok (.aload_n 0, 1) := by decide +kernel
theorem dX12_shadeOf_70 : decode cX12_shadeOf 70 = .ok (.getfield 22, 3) := by decide +kernel
theorem dX12_shadeOf_73 : decode cX12_shadeOf 73 = .ok (.iload 4, 2) := by decide +kernel
theorem dX12_shadeOf_75 : decode cX12_shadeOf 75 = .ok (.iconst 1, 1) := by decide +kernel
theorem dX12_shadeOf_76 : decode cX12_shadeOf 76 = .ok (.iadd, 1) := by decide +kernel
theorem dX12_shadeOf_77 : decode cX12_shadeOf 77 = .ok (.iaload, 1) := by decide +kernel
theorem dX12_shadeOf_78 : decode cX12_shadeOf 78 = .ok (.imul, 1) := by decide +kernel
theorem dX12_shadeOf_79 : decode cX12_shadeOf 79 = .ok (.iadd, 1) := by decide +kernel
theorem dX12_shadeOf_80 : decode cX12_shadeOf 80 = .ok (.aload_n 0, 1) := by decide +kernel
theorem dX12_shadeOf_81 : decode cX12_shadeOf 81 = .ok (.getfield 22, 3) := by decide +kernel
theorem dX12_shadeOf_84 : decode cX12_shadeOf 84 = .ok (.iload 4, 2) := by decide +kernel
theorem dX12_shadeOf_86 : decode cX12_shadeOf 86 = .ok (.iconst 2, 1) := by decide +kernel
theorem dX12_shadeOf_87 : decode cX12_shadeOf 87 = .ok (.iadd, 1) := by decide +kernel
theorem dX12_shadeOf_88 : decode cX12_shadeOf 88 = .ok (.iaload, 1) := by decide +kernel
theorem dX12_shadeOf_89 : decode cX12_shadeOf 89 = .ok (.iadd, 1) := by decide +kernel
theorem dX12_shadeOf_90 : decode cX12_shadeOf 90 = .ok (.ireturn, 1) := by decide +kernel
theorem dX12_rows_0 : decode cX12_rows 0 = .ok (.aload_n 0, 1) := by decide +kernel
theorem dX12_rows_1 : decode cX12_rows 1 = .ok (.iload_n 1, 1) := by decide +kernel
theorem dX12_rows_2 : decode cX12_rows 2 = .ok (.invokevirtual 161, 3) := by decide +kernel
theorem dX12_rows_5 : decode cX12_rows 5 = .ok (.ifCond .eq 59, 3) := by decide +kernel
theorem dX12_rows_8 : decode cX12_rows 8 = .ok (.iload_n 2, 1) := by decide +kernel
theorem dX12_rows_9 : decode cX12_rows 9 = .ok (.i2l, 1) := by decide +kernel
theorem dX12_rows_10 : decode cX12_rows 10 = .ok (.lconst 0, 1) := by decide +kernel
theorem dX12_rows_11 : decode cX12_rows 11 = .ok (.ldc2_w 209, 3) := by decide +kernel
theorem dX12_rows_14 : decode cX12_rows 14 = .ok (.invokestatic 59, 3) := by decide +kernel
theorem dX12_rows_17 : decode cX12_rows 17 = .ok (.ifCond .eq 47, 3) := by decide +kernel
theorem dX12_rows_20 : decode cX12_rows 20 = .ok (.iload_n 3, 1) := by decide +kernel
theorem dX12_rows_21 : decode cX12_rows 21 = .ok (.i2l, 1) := by decide +kernel
theorem dX12_rows_22 : decode cX12_rows 22 = .ok (.lconst 0, 1) := by decide +kernel
theorem dX12_rows_23 : decode cX12_rows 23 = .ok (.ldc2_w 209, 3) := by decide +kernel
theorem dX12_rows_26 : decode cX12_rows 26 = .ok (.invokestatic 59, 3) := by decide +kernel
theorem dX12_rows_29 : decode cX12_rows 29 = .ok (.ifCond .eq 35, 3) := by decide +kernel
theorem dX12_rows_32 : decode cX12_rows 32 = .ok (.iload 4, 2) := by decide +kernel
theorem dX12_rows_34 : decode cX12_rows 34 = .ok (.i2l, 1) := by decide +kernel
theorem dX12_rows_35 : decode cX12_rows 35 = .ok (.lconst 0, 1) := by decide +kernel
theorem dX12_rows_36 : decode cX12_rows 36 = .ok (.ldc2_w 209, 3) := by decide +kernel
theorem dX12_rows_39 : decode cX12_rows 39 = .ok (.invokestatic 59, 3) := by decide +kernel
theorem dX12_rows_42 : decode cX12_rows 42 = .ok (.ifCond .eq 22, 3) := by decide +kernel
theorem dX12_rows_45 : decode cX12_rows 45 = .ok (.iload 5, 2) := by decide +kernel
theorem dX12_rows_47 : decode cX12_rows 47 = .ok (.i2l, 1) := by decide +kernel
theorem dX12_rows_48 : decode cX12_rows 48 = .ok (.lconst 0, 1) := by decide +kernel
theorem dX12_rows_49 : decode cX12_rows 49 = .ok (.ldc2_w 166, 3) := by decide +kernel
theorem dX12_rows_52 : decode cX12_rows 52 = .ok (.invokestatic 59, 3) := by decide +kernel
theorem dX12_rows_55 : decode cX12_rows 55 = .ok (.ifCond .eq 9, 3) := by decide +kernel
theorem dX12_rows_58 : decode cX12_rows 58 = .ok (.iload 6, 2) := by decide +kernel
theorem dX12_rows_60 : decode cX12_rows 60 = .ok (.iconst (-1), 1) := by decide +kernel
theorem dX12_rows_61 : decode cX12_rows 61 = .ok (.if_icmp .ge 5, 3) := by decide +kernel
theorem dX12_rows_64 : decode cX12_rows 64 = .ok (.iconst (-1), 1) := by decide +kernel
theorem dX12_rows_65 : decode cX12_rows 65 = .ok (.ireturn, 1) := by decide +kernel
theorem dX12_rows_66 : decode cX12_rows 66 = .ok (.bipush 100, 2) := by decide +kernel
theorem dX12_rows_68 : decode cX12_rows 68 = .ok (.iload_n 2, 1) := by decide +kernel
theorem dX12_rows_69 : decode cX12_rows 69 = .ok (.imul, 1) := by decide +kernel
theorem dX12_rows_70 : decode cX12_rows 70 = .ok (.bipush 10, 2) := by decide +kernel
theorem dX12_rows_72 : decode cX12_rows 72 = .ok (.iload_n 3, 1) := by decide +kernel
theorem dX12_rows_73 : decode cX12_rows 73 = .ok (.imul, 1) := by decide +kernel
theorem dX12_rows_74 : decode cX12_rows 74 = .ok (.iadd, 1) := by decide +kernel
theorem dX12_rows_75 : decode cX12_rows 75 = .ok (.iload 4, 2) := by decide +kernel
theorem dX12_rows_77 : decode cX12_rows 77 = .ok (.iadd, 1) := by decide +kernel
theorem dX12_rows_78 : decode cX12_rows 78 = .ok (.istore 7, 2) := by decide +kernel
theorem dX12_rows_80 : decode cX12_rows 80 = .ok (.iconst 0, 1) := by decide +kernel
theorem dX12_rows_81 : decode cX12_rows 81 = .ok (.istore 8, 2) := by decide +kernel
theorem dX12_rows_83 : decode cX12_rows 83 = .ok (.bipush (-4), 2) := by decide +kernel
theorem dX12_rows_85 : decode cX12_rows 85 = .ok (.istore 9, 2) := by decide +kernel
theorem dX12_rows_87 : decode cX12_rows 87 = .ok (.aload_n 0, 1) := by decide +kernel
theorem dX12_rows_88 : decode cX12_rows 88 = .ok (.getfield 7, 3) := by decide +kernel
theorem dX12_rows_91 : decode cX12_rows 91 = .ok (.iconst 1, 1) := by decide +kernel
theorem dX12_rows_92 : decode cX12_rows 92 = .ok (.iaload, 1) := by decide +kernel
theorem dX12_rows_93 : decode cX12_rows 93 = .ok (.iload 5, 2) := by decide +kernel
theorem dX12_rows_95 : decode cX12_rows 95 = .ok (.invokestatic 206, 3) := by decide +kernel
theorem dX12_rows_98 : decode cX12_rows 98 = .ok (.iconst 1, 1) := by decide +kernel
theorem dX12_rows_99 : decode cX12_rows 99 = .ok (.isub, 1) := by decide +kernel
theorem dX12_rows_100 : decode cX12_rows 100 = .ok (.istore 10, 2) := by decide +kernel
theorem dX12_rows_102 : decode cX12_rows 102 = .ok (.iload 10, 2) := by decide +kernel
theorem dX12_rows_104 : decode cX12_rows 104 = .ok (.ifCond .lt 30, 3) := by decide +kernel
theorem dX12_rows_107 : decode cX12_rows 107 = .ok (.aload_n 0, 1) := by decide +kernel
theorem dX12_rows_108 : decode cX12_rows 108 = .ok (.iload_n 1, 1) := by decide +kernel
theorem dX12_rows_109 : decode cX12_rows 109 = .ok (.iload 10, 2) := by decide +kernel
theorem dX12_rows_111 : decode cX12_rows 111 = .ok (.iload 5, 2) := by decide +kernel
theorem dX12_rows_113 : decode cX12_rows 113 = .ok (.invokevirtual 211, 3) := by decide +kernel
theorem dX12_rows_116 : decode cX12_rows 116 = .ok (.iload 7, 2) := by decide +kernel
theorem dX12_rows_118 : decode cX12_rows 118 = .ok (.if_icmp .ne 10, 3) := by decide +kernel
theorem dX12_rows_121 : decode cX12_rows 121 = .ok (.iinc 8 1, 3) := by decide +kernel
theorem dX12_rows_124 : decode cX12_rows 124 = .ok (.iload 10, 2) := by decide +kernel
theorem dX12_rows_126 : decode cX12_rows 126 = .ok (.istore 9, 2) := by decide +kernel
theorem dX12_rows_128 : decode cX12_rows 128 = .ok (.iinc 10 (-1), 3) := by decide +kernel
theorem dX12_rows_131 : decode cX12_rows 131 = .ok (.goto (-29), 3) := by decide +kernel
theorem dX12_rows_134 : decode cX12_rows 134 = .ok (.iload 6, 2) := by decide +kernel
theorem dX12_rows_136 : decode cX12_rows 136 = .ok (.ifCond .ge 6, 3) := by decide +kernel
theorem dX12_rows_139 : decode cX12_rows 139 = .ok (.iload 8, 2) := by decide +kernel
theorem dX12_rows_141 : decode cX12_rows 141 = .ok (.ireturn, 1) := by decide +kernel
theorem dX12_rows_142 : decode cX12_rows 142 = .ok (.iload 9, 2) := by decide +kernel
theorem dX12_rows_144 : decode cX12_rows 144 = .ok (.bipush (-4), 2) := by decide +kernel
theorem dX12_rows_146 : decode cX12_rows 146 = .ok (.if_icmp .eq 10, 3) := by decide +kernel
theorem dX12_rows_149 : decode cX12_rows 149 = .ok (.iload 6, 2) := by decide +kernel
theorem dX12_rows_151 : decode cX12_rows 151 = .ok (.iload 5, 2) := by decide +kernel
theorem dX12_rows_153 : decode cX12_rows 153 = .ok (.if_icmp .lt 6, 3) := by decide +kernel
theorem dX12_rows_156 : decode cX12_rows 156 = .ok (.bipush (-4), 2) := by decide +kernel
theorem dX12_rows_158 : decode cX12_rows 158 = .ok (.ireturn, 1) := by decide +kernel
theorem dX12_rows_159 : decode cX12_rows 159 = .ok (.iload 5, 2) := by decide +kernel
theorem dX12_rows_161 : decode cX12_rows 161 = .ok (.iconst 1, 1) := by decide +kernel
theorem dX12_rows_162 : decode cX12_rows 162 = .ok (.isub, 1) := by decide +kernel
theorem dX12_rows_163 : decode cX12_rows 163 = .ok (.istore 10, 2) := by decide +kernel
theorem dX12_rows_165 : decode cX12_rows 165 = .ok (.iload 10, 2) := by decide +kernel
theorem dX12_rows_167 : decode cX12_rows 167 = .ok (.iload 6, 2) := by decide +kernel
theorem dX12_rows_169 : decode cX12_rows 169 = .ok (.if_icmp .le 20, 3) := by decide +kernel
theorem dX12_rows_172 : decode cX12_rows 172 = .ok (.iload 9, 2) := by decide +kernel
theorem dX12_rows_174 : decode cX12_rows 174 = .ok (.aload_n 0, 1) := by decide +kernel
theorem dX12_rows_175 : decode cX12_rows 175 = .ok (.getfield 7, 3) := by decide +kernel
theorem dX12_rows_178 : decode cX12_rows 178 = .ok (.iconst 1, 1) := by decide +kernel
theorem dX12_rows_179 : decode cX12_rows 179 = .ok (.iaload, 1) := by decide +kernel
theorem dX12_rows_180 : decode cX12_rows 180 = .ok (.idiv, 1) := by decide +kernel
theorem dX12_rows_181 : decode cX12_rows 181 = .ok (.istore 9, 2) := by decide +kernel
theorem dX12_rows_183 : decode cX12_rows 183 = .ok (.iinc 10 (-1), 3) := by decide +kernel
theorem dX12_rows_186 : decode cX12_rows 186 = .ok (.goto (-21), 3) := by decide +kernel
theorem dX12_rows_189 : decode cX12_rows 189 = .ok (.iload 9, 2) := by decide +kernel
theorem dX12_rows_191 : decode cX12_rows 191 = .ok (.aload_n 0, 1) := by decide +kernel
theorem dX12_rows_192 : decode cX12_rows 192 = .ok (.getfield 7, 3) := by decide +kernel
theorem dX12_rows_195 : decode cX12_rows 195 = .ok (.iconst 1, 1) := by decide +kernel
theorem dX12_rows_196 : decode cX12_rows 196 = .ok (.iaload, 1) := by decide +kernel
theorem dX12_rows_197 : decode cX12_rows 197 = .ok (.irem, 1) := by decide +kernel
theorem dX12_rows_198 : decode cX12_rows 198 = .ok (.ireturn, 1) := by decide +kernel
theorem dX12_shades_0 : decode cX12_shades 0 = .ok (.aload_n 0, 1) := by decide +kernel
theorem dX12_shades_1 : decode cX12_shades 1 = .ok (.iload_n 1, 1) := by decide +kernel
theorem dX12_shades_2 : decode cX12_shades 2 = .ok (.invokevirtual 161, 3) := by decide +kernel
theorem dX12_shades_5 : decode cX12_shades 5 = .ok (.ifCond .eq 15, 3) := by decide +kernel
theorem dX12_shades_8 : decode cX12_shades 8 = .ok (.iload_n 2, 1) := by decide +kernel
theorem dX12_shades_9 : decode cX12_shades 9 = .ok (.i2l, 1) := by decide +kernel
theorem dX12_shades_10 : decode cX12_shades 10 = .ok (.lconst 0, 1) := by decide +kernel
theorem dX12_shades_11 : decode cX12_shades 11 = .ok (.ldc2_w 166, 3) := by decide +kernel
theorem dX12_shades_14 : decode cX12_shades 14 = .ok (.invokestatic 59, 3) := by decide +kernel
theorem dX12_shades_17 : decode cX12_shades 17 = .ok (.ifCond .ne 5, 3) := by decide +kernel
theorem dX12_shades_20 : decode cX12_shades 20 = .ok (.iconst (-1), 1) := by decide +kernel
theorem dX12_shades_21 : decode cX12_shades 21 = .ok (.ireturn, 1) := by decide +kernel
theorem dX12_shades_22 : decode cX12_shades 22 = .ok (.iconst 0, 1) := by decide +kernel
theorem dX12_shades_23 : decode cX12_shades 23 = .ok (.istore_n 3, 1) := by decide +kernel
theorem dX12_shades_24 : decode cX12_shades 24 = .ok (.iload_n 3, 1) := by decide +kernel
theorem dX12_shades_25 : decode cX12_shades 25 = .ok (.sipush 1000, 3) := by decide +kernel
theorem dX12_shades_28 : decode cX12_shades 28 = .ok (.if_icmp .ge 16, 3) := by decide +kernel
theorem dX12_shades_31 : decode cX12_shades 31 = .ok (.aload_n 0, 1) := by decide +kernel
theorem dX12_shades_32 : decode cX12_shades 32 = .ok (.getfield 48, 3) := by decide +kernel
theorem dX12_shades_35 : decode cX12_shades 35 = .ok (.iload_n 3, 1) := by decide +kernel
theorem dX12_shades_36 : decode cX12_shades 36 = .ok (.iconst 0, 1) := by decide +kernel
theorem dX12_shades_37 : decode cX12_shades 37 = .ok (.bastore, 1) := by decide +kernel
theorem dX12_shades_38 : decode cX12_shades 38 = .ok (.iinc 3 1, 3) := by decide +kernel
theorem dX12_shades_41 : decode cX12_shades 41 = .ok (.goto (-17), 3) := by decide +kernel
theorem dX12_shades_44 : decode cX12_shades 44 = .ok (.iconst 0, 1) := by decide +kernel
theorem dX12_shades_45 : decode cX12_shades 45 = .ok (.istore_n 3, 1) := by decide +kernel
theorem dX12_shades_46 : decode cX12_shades 46 = .ok (.aload_n 0, 1) := by decide +kernel
theorem dX12_shades_47 : decode cX12_shades 47 = .ok (.getfield 7, 3) := by decide +kernel
theorem dX12_shades_50 : decode cX12_shades 50 = .ok (.iconst 1, 1) := by decide +kernel
theorem dX12_shades_51 : decode cX12_shades 51 = .ok (.iaload, 1) := by decide +kernel
theorem dX12_shades_52 : decode cX12_shades 52 = .ok (.iload_n 2, 1) := by decide +kernel
theorem dX12_shades_53 : decode cX12_shades 53 = .ok (.invokestatic 206, 3) := by decide +kernel
theorem dX12_shades_56 : decode cX12_shades 56 = .ok (.iconst 1, 1) := by decide +kernel
theorem dX12_shades_57 : decode cX12_shades 57 = .ok (.isub, 1) := by decide +kernel
theorem dX12_shades_58 : decode cX12_shades 58 = .ok (.istore 4, 2) := by decide +kernel
theorem dX12_shades_60 : decode cX12_shades 60 = .ok (.iload 4, 2) := by decide +kernel
theorem dX12_shades_62 : decode cX12_shades 62 = .ok (.ifCond .lt 45, 3) := by decide +kernel
theorem dX12_shades_65 : decode cX12_shades 65 = .ok (.aload_n 0, 1) := by decide +kernel
theorem dX12_shades_66 : decode cX12_shades 66 = .ok (.iload_n 1, 1) := by decide +kernel
theorem dX12_shades_67 : decode cX12_shades 67 = .ok (.iload 4, 2) := by decide +kernel
theorem dX12_shades_69 : decode cX12_shades 69 = .ok (.iload_n 2, 1) := by decide +kernel
theorem dX12_shades_70 : decode cX12_shades 70 = .ok (.invokevirtual 211, 3) := by decide +kernel
theorem dX12_shades_73 : decode cX12_shades 73 = .ok (.istore 5, 2) := by decide +kernel
theorem dX12_shades_75 : decode cX12_shades 75 = .ok (.iload_n 3, 1) := by decide +kernel
theorem dX12_shades_76 : decode cX12_shades 76 = .ok (.aload_n 0, 1) := by decide +kernel
theorem dX12_shades_77 : decode cX12_shades 77 = .ok (.getfield 48, 3) := by decide +kernel
theorem dX12_shades_80 : decode cX12_shades 80 = .ok (.iload 5, 2) := by decide +kernel
theorem dX12_shades_82 : decode cX12_shades 82 = .ok (.baload, 1) := by decide +kernel
theorem dX12_shades_83 : decode cX12_shades 83 = .ok (.ifCond .eq 7, 3) := by decide +kernel
theorem dX12_shades_86 : decode cX12_shades 86 = .ok (.iconst 0, 1) := by decide +kernel
theorem dX12_shades_87 : decode cX12_shades 87 = .ok (.goto 4, 3) := by decide +kernel
theorem dX12_shades_90 : decode cX12_shades 90 = .ok (.iconst 1, 1) := by decide +kernel
theorem dX12_shades_91 : decode cX12_shades 91 = .ok (.iadd, 1) := by decide +kernel
theorem dX12_shades_92 : decode cX12_shades 92 = .ok (.istore_n 3, 1) := by decide +kernel
theorem dX12_shades_93 : decode cX12_shades 93 = .ok (.aload_n 0, 1) := by decide +kernel
theorem dX12_shades_94 : decode cX12_shades 94 = .ok (.getfield 48, 3) := by decide +kernel
theorem dX12_shades_97 : decode cX12_shades 97 = .ok (.iload 5, 2) := by decide +kernel
theorem dX12_shades_99 : decode cX12_shades 99 = .ok (.iconst 1, 1) := by decide +kernel
theorem dX12_shades_100 : decode cX12_shades 100 = .ok (.bastore, 1) := by decide +kernel
theorem dX12_shades_101 : decode cX12_shades 101 = .ok (.iinc 4 (-1), 3) := by decide +kernel
theorem dX12_shades_104 : decode cX12_shades 104 = .ok (.goto (-44), 3) := by decide +kernel
theorem dX12_shades_107 : decode cX12_shades 107 = .ok (.iload_n 3, 1) := by decide +kernel
theorem dX12_shades_108 : decode cX12_shades 108 = .ok (.ireturn, 1) := by decide +kernel
theorem dX12_cracks_0 : decode cX12_cracks 0 = .ok (.aload_n 0, 1) := by decide +kernel
theorem dX12_cracks_1 : decode cX12_cracks 1 = .ok (.iload_n 1, 1) := by decide +kernel
theorem dX12_cracks_2 : decode cX12_cracks 2 = .ok (.invokevirtual 172, 3) := by decide +kernel
theorem dX12_cracks_5 : decode cX12_cracks 5 = .ok (.ifCond .eq 38, 3) := by decide +kernel
theorem dX12_cracks_8 : decode cX12_cracks 8 = .ok (.iload_n 2, 1) := by decide +kernel
theorem dX12_cracks_9 : decode cX12_cracks 9 = .ok (.i2l, 1) := by decide +kernel
theorem dX12_cracks_10 : decode cX12_cracks 10 = .ok (.lconst 0, 1) := by decide +kernel
theorem dX12_cracks_11 : decode cX12_cracks 11 = .ok (.ldc2_w 164, 3) := by decide +kernel
theorem dX12_cracks_14 : decode cX12_cracks 14 = .ok (.invokestatic 59, 3) := by decide +kernel
theorem dX12_cracks_17 : decode cX12_cracks 17 = .ok (.ifCond .eq 26, 3) := by decide +kernel
theorem dX12_cracks_20 : decode cX12_cracks 20 = .ok (.iload_n 3, 1) := by decide +kernel
theorem dX12_cracks_21 : decode cX12_cracks 21 = .ok (.i2l, 1) := by decide +kernel
theorem dX12_cracks_22 : decode cX12_cracks 22 = .ok (.lconst 0, 1) := by decide +kernel
theorem dX12_cracks_23 : decode cX12_cracks 23 = .ok (.ldc2_w 141, 3) := by decide +kernel
theorem dX12_cracks_26 : decode cX12_cracks 26 = .ok (.invokestatic 59, 3) := by decide +kernel
theorem dX12_cracks_29 : decode cX12_cracks 29 = .ok (.ifCond .eq 14, 3) := by decide +kernel
theorem dX12_cracks_32 : decode cX12_cracks 32 = .ok (.iload 4, 2) := by decide +kernel
theorem dX12_cracks_34 : decode cX12_cracks 34 = .ok (.i2l, 1) := by decide +kernel
theorem dX12_cracks_35 : decode cX12_cracks 35 = .ok (.lconst 0, 1) := by decide +kernel
theorem dX12_cracks_36 : decode cX12_cracks 36 = .ok (.lconst 1, 1) := by decide +kernel
theorem dX12_cracks_37 : decode cX12_cracks 37 = .ok (.invokestatic 59, 3) := by decide +kernel
theorem dX12_cracks_40 : decode cX12_cracks 40 = .ok (.ifCond .ne 5, 3) := by decide +kernel
theorem dX12_cracks_43 : decode cX12_cracks 43 = .ok (.iconst (-1), 1) := by decide +kernel
theorem dX12_cracks_44 : decode cX12_cracks 44 = .ok (.ireturn, 1) := by decide +kernel
theorem dX12_cracks_45 : decode cX12_cracks 45 = .ok (.iconst 0, 1) := by decide +kernel
theorem dX12_cracks_46 : decode cX12_cracks 46 = .ok (.istore 5, 2) := by decide +kernel
theorem dX12_cracks_48 : decode cX12_cracks 48 = .ok (.iload 5, 2) := by decide +kernel
theorem dX12_cracks_50 : decode cX12_cracks 50 = .ok (.bipush 10, 2) := by decide +kernel
theorem dX12_cracks_52 : decode cX12_cracks 52 = .ok (.if_icmp .ge 26, 3) := by decide +kernel
theorem dX12_cracks_55 : decode cX12_cracks 55 = .ok (.aload_n 0, 1) := by decide +kernel
theorem dX12_cracks_56 : decode cX12_cracks 56 = .ok (.getfield 51, 3) := by decide +kernel
theorem dX12_cracks_59 : decode cX12_cracks 59 = .ok (.iload 5, 2) := by decide +kernel
theorem dX12_cracks_61 : decode cX12_cracks 61 = .ok (.iload 5, 2) := by decide +kernel
theorem dX12_cracks_63 : decode cX12_cracks 63 = .ok (.ifCond .ne 7, 3) := by decide +kernel
theorem dX12_cracks_66 : decode cX12_cracks 66 = .ok (.lconst 1, 1) := by decide +kernel
theorem dX12_cracks_67 : decode cX12_cracks 67 = .ok (.goto 4, 3) := by decide +kernel
theorem dX12_cracks_70 : decode cX12_cracks 70 = .ok (.lconst 0, 1) := by decide +kernel
theorem dX12_cracks_71 : decode cX12_cracks 71 = .ok (.lastore, 1) := by decide +kernel
theorem dX12_cracks_72 : decode cX12_cracks 72 = .ok (.iinc 5 1, 3) := by decide +kernel
theorem dX12_cracks_75 : decode cX12_cracks 75 = .ok (.goto (-27), 3) := by decide +kernel
theorem dX12_cracks_78 : decode cX12_cracks 78 = .ok (.aload_n 0, 1) := by decide +kernel
theorem dX12_cracks_79 : decode cX12_cracks 79 = .ok (.invokevirtual 193, 3) := by decide +kernel
theorem dX12_cracks_82 : decode cX12_cracks 82 = .ok (.lconst 1, 1) := by decide +kernel
theorem dX12_cracks_83 : decode cX12_cracks 83 = .ok (.lstore 5, 2) := by decide +kernel
theorem dX12_cracks_85 : decode cX12_cracks 85 = .ok (.iconst 0, 1) := by decide +kernel
theorem dX12_cracks_86 : decode cX12_cracks 86 = .ok (.istore 7, 2) := by decide +kernel
theorem dX12_cracks_88 : decode cX12_cracks 88 = .ok (.iload 7, 2) := by decide +kernel
theorem dX12_cracks_90 : decode cX12_cracks 90 = .ok (.aload_n 0, 1) := by decide +kernel
theorem dX12_cracks_91 : decode cX12_cracks 91 = .ok (.getfield 7, 3) := by decide +kernel
theorem dX12_cracks_94 : decode cX12_cracks 94 = .ok (.iconst 0, 1) := by decide +kernel
theorem dX12_cracks_95 : decode cX12_cracks 95 = .ok (.iaload, 1) := by decide +kernel
theorem dX12_cracks_96 : decode cX12_cracks 96 = .ok (.if_icmp .ge 219, 3) := by decide +kernel
theorem dX12_cracks_99 : decode cX12_cracks 99 = .ok (.aload_n 0, 1) := by decide +kernel
theorem dX12_cracks_100 : decode cX12_cracks 100 = .ok (.getfield 19, 3) := by decide +kernel
theorem dX12_cracks_103 : decode cX12_cracks 103 = .ok (.bipush 24, 2) := by decide +kernel
theorem dX12_cracks_105 : decode cX12_cracks 105 = .ok (.iload 7, 2) := by decide +kernel
theorem dX12_cracks_107 : decode cX12_cracks 107 = .ok (.iadd, 1) := by decide +kernel
theorem dX12_cracks_108 : decode cX12_cracks 108 = .ok (.iaload, 1) := by decide +kernel
theorem dX12_cracks_109 : decode cX12_cracks 109 = .ok (.ifCond .le 7, 3) := by decide +kernel
theorem dX12_cracks_112 : decode cX12_cracks 112 = .ok (.iconst 1, 1) := by decide +kernel
theorem dX12_cracks_113 : decode cX12_cracks 113 = .ok (.goto 4, 3) := by decide +kernel
theorem dX12_cracks_116 : decode cX12_cracks 116 = .ok (.iconst 0, 1) := by decide +kernel
theorem dX12_cracks_117 : decode cX12_cracks 117 = .ok (.istore 8, 2) := by decide +kernel
theorem dX12_cracks_119 : decode cX12_cracks 119 = .ok (.aload_n 0, 1) := by decide +kernel
theorem dX12_cracks_120 : decode cX12_cracks 120 = .ok (.aload_n 0, 1) := by decide +kernel
theorem dX12_cracks_121 : decode cX12_cracks 121 = .ok (.getfield 22, 3) := by decide +kernel
theorem dX12_cracks_124 : decode cX12_cracks 124 = .ok (.iload 7, 2) := by decide +kernel
theorem dX12_cracks_126 : decode cX12_cracks 126 = .ok (.iload_n 1, 1) := by decide +kernel
theorem dX12_cracks_127 : decode cX12_cracks 127 = .ok (.invokevirtual 147, 3) := by decide +kernel
theorem dX12_cracks_130 : decode cX12_cracks 130 = .ok (.aload_n 0, 1) := by decide +kernel
theorem dX12_cracks_131 : decode cX12_cracks 131 = .ok (.getfield 22, 3) := by decide +kernel
theorem dX12_cracks_134 : decode cX12_cracks 134 = .ok (.iload 7, 2) := by decide +kernel
theorem dX12_cracks_136 : decode cX12_cracks 136 = .ok (.invokestatic 119, 3) := by decide +kernel
theorem dX12_cracks_139 : decode cX12_cracks 139 = .ok (.istore 9, 2) := by decide +kernel
theorem dX12_cracks_141 : decode cX12_cracks 141 = .ok (.aload_n 0, 1) := by decide +kernel
theorem dX12_cracks_142 : decode cX12_cracks 142 = .ok (.getfield 22, 3) := by decide +kernel
theorem dX12_cracks_145 : decode cX12_cracks 145 = .ok (.bipush 24, 2) := by decide +kernel
theorem dX12_cracks_147 : decode cX12_cracks 147 = .ok (.iload 7, 2) := by decide +kernel
theorem dX12_cracks_149 : decode cX12_cracks 149 = .ok (.iadd, 1) := by decide +kernel
theorem dX12_cracks_150 : decode cX12_cracks 150 = .ok (.iconst 0, 1) := by decide +kernel
theorem dX12_cracks_151 : decode cX12_cracks 151 = .ok (.iastore, 1) := by decide +kernel
theorem dX12_cracks_152 : decode cX12_cracks 152 = .ok (.iload 8, 2) := by decide +kernel
theorem dX12_cracks_154 : decode cX12_cracks 154 = .ok (.ifCond .eq 14, 3) := by decide +kernel
theorem dX12_cracks_157 : decode cX12_cracks 157 = .ok (.aload_n 0, 1) := by decide +kernel
theorem dX12_cracks_158 : decode cX12_cracks 158 = .ok (.aload_n 0, 1) := by decide +kernel
theorem dX12_cracks_159 : decode cX12_cracks 159 = .ok (.getfield 22, 3) := by decide +kernel
theorem dX12_cracks_162 : decode cX12_cracks 162 = .ok (.iload 7, 2) := by decide +kernel
theorem dX12_cracks_164 : decode cX12_cracks 164 = .ok (.iload_n 1, 1) := by decide +kernel
theorem dX12_cracks_165 : decode cX12_cracks 165 = .ok (.invokevirtual 147, 3) := by decide +kernel
theorem dX12_cracks_168 : decode cX12_cracks 168 = .ok (.aload_n 0, 1) := by decide +kernel
theorem dX12_cracks_169 : decode cX12_cracks 169 = .ok (.getfield 22, 3) := by decide +kernel
theorem dX12_cracks_172 : decode cX12_cracks 172 = .ok (.iload 7, 2) := by decide +kernel
theorem dX12_cracks_174 : decode cX12_cracks 174 = .ok (.invokestatic 119, 3) := by decide +kernel
theorem dX12_cracks_177 : decode cX12_cracks 177 = .ok (.istore 10, 2) := by decide +kernel
theorem dX12_cracks_179 : decode cX12_cracks 179 = .ok (.iload 8, 2) := by decide +kernel
theorem dX12_cracks_181 : decode cX12_cracks 181 = .ok (.ifCond .eq 8, 3) := by decide +kernel
theorem dX12_cracks_184 : decode cX12_cracks 184 = .ok (.iload_n 3, 1) := by decide +kernel
theorem dX12_cracks_185 : decode cX12_cracks 185 = .ok (.i2l, 1) := by decide +kernel
theorem dX12_cracks_186 : decode cX12_cracks 186 = .ok (.goto 4, 3) := by decide +kernel
theorem dX12_cracks_189 : decode cX12_cracks 189 = .ok (.lconst 0, 1) := by decide +kernel
theorem dX12_cracks_190 : decode cX12_cracks 190 = .ok (.lstore 11, 2) := by decide +kernel
theorem dX12_cracks_192 : decode cX12_cracks 192 = .ok (.iload 8, 2) := by decide +kernel
theorem dX12_cracks_194 : decode cX12_cracks 194 = .ok (.ifCond .eq 11, 3) := by decide +kernel
theorem dX12_cracks_197 : decode cX12_cracks 197 = .ok (.bipush 10, 2) := by decide +kernel
theorem dX12_cracks_199 : decode cX12_cracks 199 = .ok (.iload_n 3, 1) := by decide +kernel
theorem dX12_cracks_200 : decode cX12_cracks 200 = .ok (.isub, 1) := by decide +kernel
theorem dX12_cracks_201 : decode cX12_cracks 201 = .ok (.i2l, 1) := by decide +kernel
theorem dX12_cracks_202 : decode cX12_cracks 202 = .ok (.goto 4, 3) := by decide +kernel
theorem dX12_cracks_205 : decode cX12_cracks 205 = .ok (.lconst 1, 1) := by decide +kernel
theorem dX12_cracks_206 : decode cX12_cracks 206 = .ok (.lstore 13, 2) := by decide +kernel
theorem dX12_cracks_208 : decode cX12_cracks 208 = .ok (.bipush 8, 2) := by decide +kernel
theorem dX12_cracks_210 : decode cX12_cracks 210 = .ok (.istore 15, 2) := by decide +kernel
theorem dX12_cracks_212 : decode cX12_cracks 212 = .ok (.iload 15, 2) := by decide +kernel
theorem dX12_cracks_214 : decode cX12_cracks 214 = .ok (.ifCond .lt 78, 3) := by decide +kernel
theorem dX12_cracks_217 : decode cX12_cracks 217 = .ok (.aload_n 0, 1) := by decide +kernel
theorem dX12_cracks_218 : decode cX12_cracks 218 = .ok (.getfield 51, 3) := by decide +kernel
theorem dX12_cracks_221 : decode cX12_cracks 221 = .ok (.iload 15, 2) := by decide +kernel
theorem dX12_cracks_223 : decode cX12_cracks 223 = .ok (.laload, 1) := by decide +kernel
theorem dX12_cracks_224 : decode cX12_cracks 224 = .ok (.lstore 16, 2) := by decide +kernel
theorem dX12_cracks_226 : decode cX12_cracks 226 = .ok (.aload_n 0, 1) := by decide +kernel
theorem dX12_cracks_227 : decode cX12_cracks 227 = .ok (.getfield 51, 3) := by decide +kernel
theorem dX12_cracks_230 : decode cX12_cracks 230 = .ok (.iload 15, 2) := by decide +kernel
theorem dX12_cracks_232 : decode cX12_cracks 232 = .ok (.lconst 0, 1) := by decide +kernel
theorem dX12_cracks_233 : decode cX12_cracks 233 = .ok (.lastore, 1) := by decide +kernel
theorem dX12_cracks_234 : decode cX12_cracks 234 = .ok (.aload_n 0, 1) := by decide +kernel
theorem dX12_cracks_235 : decode cX12_cracks 235 = .ok (.getfield 51, 3) := by decide +kernel
theorem dX12_cracks_238 : decode cX12_cracks 238 = .ok (.iload 15, 2) := by decide +kernel
theorem dX12_cracks_240 : decode cX12_cracks 240 = .ok (.iload 9, 2) := by decide +kernel
theorem dX12_cracks_242 : decode cX12_cracks 242 = .ok (.ifCond .eq 7, 3) := by decide +kernel
theorem dX12_cracks_245 : decode cX12_cracks 245 = .ok (.iconst 1, 1) := by decide +kernel
theorem dX12_cracks_246 : decode cX12_cracks 246 = .ok (.goto 4, 3) := by decide +kernel
theorem dX12_cracks_249 : decode cX12_cracks 249 = .ok (.iconst 0, 1) := by decide +kernel
theorem dX12_cracks_250 : decode cX12_cracks 250 = .ok (.iadd, 1) := by decide +kernel
theorem dX12_cracks_251 : decode cX12_cracks 251 = .ok (.dup2, 1) := by decide +kernel
theorem dX12_cracks_252 : decode cX12_cracks 252 = .ok (.laload, 1) := by decide +kernel
theorem dX12_cracks_253 : decode cX12_cracks 253 = .ok (.lload 16, 2) := by decide +kernel
theorem dX12_cracks_255 : decode cX12_cracks 255 = .ok (.lload 13, 2) := by decide +kernel
theorem dX12_cracks_257 : decode cX12_cracks 257 = .ok (.lmul, 1) := by decide +kernel
theorem dX12_cracks_258 : decode cX12_cracks 258 = .ok (.ladd, 1) := by decide +kernel
theorem dX12_cracks_259 : decode cX12_cracks 259 = .ok (.lastore, 1) := by decide +kernel
theorem dX12_cracks_260 : decode cX12_cracks 260 = .ok (.aload_n 0, 1) := by decide +kernel
theorem dX12_cracks_261 : decode cX12_cracks 261 = .ok (.getfield 51, 3) := by decide +kernel
theorem dX12_cracks_264 : decode cX12_cracks 264 = .ok (.iload 15, 2) := by decide +kernel
theorem dX12_cracks_266 : decode cX12_cracks 266 = .ok (.iload 10, 2) := by decide +kernel
theorem dX12_cracks_268 : decode cX12_cracks 268 = .ok (.ifCond .eq 7, 3) := by decide +kernel
theorem dX12_cracks_271 : decode cX12_cracks 271 = .ok (.iconst 1, 1) := by decide +kernel
theorem dX12_cracks_272 : decode cX12_cracks 272 = .ok (.goto 4, 3) := by decide +kernel
theorem dX12_cracks_275 : decode cX12_cracks 275 = .ok (.iconst 0, 1) := by decide +kernel
theorem dX12_cracks_276 : decode cX12_cracks 276 = .ok (.iadd, 1) := by decide +kernel
theorem dX12_cracks_277 : decode cX12_cracks 277 = .ok (.dup2, 1) := by decide +kernel
theorem dX12_cracks_278 : decode cX12_cracks 278 = .ok (.laload, 1) := by decide +kernel
theorem dX12_cracks_279 : decode cX12_cracks 279 = .ok (.lload 16, 2) := by decide +kernel
theorem dX12_cracks_281 : decode cX12_cracks 281 = .ok (.lload 11, 2) := by decide +kernel
theorem dX12_cracks_283 : decode cX12_cracks 283 = .ok (.lmul, 1) := by decide +kernel
theorem dX12_cracks_284 : decode cX12_cracks 284 = .ok (.ladd, 1) := by decide +kernel
theorem dX12_cracks_285 : decode cX12_cracks 285 = .ok (.lastore, 1) := by decide +kernel
theorem dX12_cracks_286 : decode cX12_cracks 286 = .ok (.iinc 15 (-1), 3) := by decide +kernel
theorem dX12_cracks_289 : decode cX12_cracks 289 = .ok (.goto (-77), 3) := by decide +kernel
theorem dX12_cracks_292 : decode cX12_cracks 292 = .ok (.lload 5, 2) := by decide +kernel
theorem dX12_cracks_294 : decode cX12_cracks 294 = .ok (.iload 8, 2) := by decide +kernel
theorem dX12_cracks_296 : decode cX12_cracks 296 = .ok (.ifCond .eq 9, 3) := by decide +kernel
theorem dX12_cracks_299 : decode cX12_cracks 299 = .ok (.ldc2_w 141, 3) := by decide +kernel
theorem dX12_cracks_302 : decode cX12_cracks 302 = .ok (.goto 4, 3) := by decide +kernel
theorem dX12_cracks_305 : decode cX12_cracks 305 = .ok (.lconst 1, 1) := by decide +kernel
theorem dX12_cracks_306 : decode cX12_cracks 306 = .ok (.lmul, 1) := by decide +kernel
theorem dX12_cracks_307 : decode cX12_cracks 307 = .ok (.lstore 5, 2) := by decide +kernel
theorem dX12_cracks_309 : decode cX12_cracks 309 = .ok (.iinc 7 1, 3) := by decide +kernel
theorem dX12_cracks_312 : decode cX12_cracks 312 = .ok (.goto (-224), 3) := by decide +kernel
theorem dX12_cracks_315 : decode cX12_cracks 315 = .ok (.lconst 0, 1) := by decide +kernel
theorem dX12_cracks_316 : decode cX12_cracks 316 = .ok (.lstore 7, 2) := by decide +kernel
theorem dX12_cracks_318 : decode cX12_cracks 318 = .ok (.iload_n 2, 1) := by decide +kernel
theorem dX12_cracks_319 : decode cX12_cracks 319 = .ok (.istore 9, 2) := by decide +kernel
theorem dX12_cracks_321 : decode cX12_cracks 321 = .ok (.iload 9, 2) := by decide +kernel
theorem dX12_cracks_323 : decode cX12_cracks 323 = .ok (.bipush 9, 2) := by decide +kernel
theorem dX12_cracks_325 : decode cX12_cracks 325 = .ok (.if_icmp .ge 21, 3) := by decide +kernel
theorem dX12_cracks_328 : decode cX12_cracks 328 = .ok (.lload 7, 2) := by decide +kernel
theorem dX12_cracks_330 : decode cX12_cracks 330 = .ok (.aload_n 0, 1) := by decide +kernel
theorem dX12_cracks_331 : decode cX12_cracks 331 = .ok (.getfield 51, 3) := by decide +kernel
theorem dX12_cracks_334 : decode cX12_cracks 334 = .ok (.iload 9, 2) := by decide +kernel
theorem dX12_cracks_336 : decode cX12_cracks 336 = .ok (.laload, 1) := by decide +kernel
theorem dX12_cracks_337 : decode cX12_cracks 337 = .ok (.ladd, 1) := by decide +kernel
theorem dX12_cracks_338 : decode cX12_cracks 338 = .ok (.lstore 7, 2) := by decide +kernel
theorem dX12_cracks_340 : decode cX12_cracks 340 = .ok (.iinc 9 1, 3) := by decide +kernel
theorem dX12_cracks_343 : decode cX12_cracks 343 = .ok (.goto (-22), 3) := by decide +kernel
theorem dX12_cracks_346 : decode cX12_cracks 346 = .ok (.lload 7, 2) := by decide +kernel
theorem dX12_cracks_348 : decode cX12_cracks 348 = .ok (.lstore 9, 2) := by decide +kernel
theorem dX12_cracks_350 : decode cX12_cracks 350 = .ok (.lload 5, 2) := by decide +kernel
theorem dX12_cracks_352 : decode cX12_cracks 352 = .ok (.lstore 11, 2) := by decide +kernel
theorem dX12_cracks_354 : decode cX12_cracks 354 = .ok (.lload 11, 2) := by decide +kernel
theorem dX12_cracks_356 : decode cX12_cracks 356 = .ok (.lconst 0, 1) := by decide +kernel
theorem dX12_cracks_357 : decode cX12_cracks 357 = .ok (.lcmp, 1) := by decide +kernel
theorem dX12_cracks_358 : decode cX12_cracks 358 = .ok (.ifCond .eq 21, 3) := by decide +kernel
theorem dX12_cracks_361 : decode cX12_cracks 361 = .ok (.lload 9, 2) := by decide +kernel
theorem dX12_cracks_363 : decode cX12_cracks 363 = .ok (.lload 11, 2) := by decide +kernel
theorem dX12_cracks_365 : decode cX12_cracks 365 = .ok (.lrem, 1) := by decide +kernel
theorem dX12_cracks_366 : decode cX12_cracks 366 = .ok (.lstore 13, 2) := by decide +kernel
theorem dX12_cracks_368 : decode cX12_cracks 368 = .ok (.lload 11, 2) := by decide +kernel
theorem dX12_cracks_370 : decode cX12_cracks 370 = .ok (.lstore 9, 2) := by decide +kernel
theorem dX12_cracks_372 : decode cX12_cracks 372 = .ok (.lload 13, 2) := by decide +kernel
theorem dX12_cracks_374 : decode cX12_cracks 374 = .ok (.lstore 11, 2) := by decide +kernel
theorem dX12_cracks_376 : decode cX12_cracks 376 = .ok (.goto (-22), 3) := by decide +kernel
theorem dX12_cracks_379 : decode cX12_cracks 379 = .ok (.iload 4, 2) := by decide +kernel
theorem dX12_cracks_381 : decode cX12_cracks 381 = .ok (.ifCond .ne 8, 3) := by decide +kernel
theorem dX12_cracks_384 : decode cX12_cracks 384 = .ok (.lload 7, 2) := by decide +kernel
theorem dX12_cracks_386 : decode cX12_cracks 386 = .ok (.goto 5, 3) := by decide +kernel
theorem dX12_cracks_389 : decode cX12_cracks 389 = .ok (.lload 5, 2) := by decide +kernel
theorem dX12_cracks_391 : decode cX12_cracks 391 = .ok (.lload 9, 2) := by decide +kernel
theorem dX12_cracks_393 : decode cX12_cracks 393 = .ok (.ldiv, 1) := by decide +kernel
theorem dX12_cracks_394 : decode cX12_cracks 394 = .ok (.l2i, 1) := by decide +kernel
theorem dX12_cracks_395 : decode cX12_cracks 395 = .ok (.ireturn, 1) := by decide +kernel
theorem dX12_decades_0 : decode cX12_decades 0 = .ok (.iload_n 1, 1) := by decide +kernel
theorem dX12_decades_1 : decode cX12_decades 1 = .ok (.i2l, 1) := by decide +kernel
theorem dX12_decades_2 : decode cX12_decades 2 = .ok (.lconst 0, 1) := by decide +kernel
theorem dX12_decades_3 : decode cX12_decades 3 = .ok (.ldc2_w 214, 3) := by decide +kernel
theorem dX12_decades_6 : decode cX12_decades 6 = .ok (.invokestatic 59, 3) := by decide +kernel
theorem dX12_decades_9 : decode cX12_decades 9 = .ok (.ifCond .eq 25, 3) := by decide +kernel
theorem dX12_decades_12 : decode cX12_decades 12 = .ok (.iload_n 2, 1) := by decide +kernel
theorem dX12_decades_13 : decode cX12_decades 13 = .ok (.i2l, 1) := by decide +kernel
theorem dX12_decades_14 : decode cX12_decades 14 = .ok (.lconst 1, 1) := by decide +kernel
theorem dX12_decades_15 : decode cX12_decades 15 = .ok (.ldc2_w 216, 3) := by decide +kernel
theorem dX12_decades_18 : decode cX12_decades 18 = .ok (.invokestatic 59, 3) := by decide +kernel
theorem dX12_decades_21 : decode cX12_decades 21 = .ok (.ifCond .eq 13, 3) := by decide +kernel
theorem dX12_decades_24 : decode cX12_decades 24 = .ok (.iload_n 3, 1) := by decide +kernel
theorem dX12_decades_25 : decode cX12_decades 25 = .ok (.i2l, 1) := by decide +kernel
theorem dX12_decades_26 : decode cX12_decades 26 = .ok (.lconst 0, 1) := by decide +kernel
theorem dX12_decades_27 : decode cX12_decades 27 = .ok (.lconst 1, 1) := by decide +kernel
theorem dX12_decades_28 : decode cX12_decades 28 = .ok (.invokestatic 59, 3) := by decide +kernel
theorem dX12_decades_31 : decode cX12_decades 31 = .ok (.ifCond .ne 5, 3) := by decide +kernel
theorem dX12_decades_34 : decode cX12_decades 34 = .ok (.iconst (-1), 1) := by decide +kernel
theorem dX12_decades_35 : decode cX12_decades 35 = .ok (.ireturn, 1) := by decide +kernel
theorem dX12_decades_36 : decode cX12_decades 36 = .ok (.aload_n 0, 1) := by decide +kernel
theorem dX12_decades_37 : decode cX12_decades 37 = .ok (.getfield 7, 3) := by decide +kernel
theorem dX12_decades_40 : decode cX12_decades 40 = .ok (.iconst 0, 1) := by decide +kernel
theorem dX12_decades_41 : decode cX12_decades 41 = .ok (.iaload, 1) := by decide +kernel
theorem dX12_decades_42 : decode cX12_decades 42 = .ok (.ifCond .ne 6, 3) := by decide +kernel
theorem dX12_decades_45 : decode cX12_decades 45 = .ok (.bipush (-2), 2) := by decide +kernel
theorem dX12_decades_47 : decode cX12_decades 47 = .ok (.ireturn, 1) := by decide +kernel
theorem dX12_decades_48 : decode cX12_decades 48 = .ok (.aload_n 0, 1) := by decide +kernel
theorem dX12_decades_49 : decode cX12_decades 49 = .ok (.invokevirtual 193, 3) := by decide +kernel
theorem dX12_decades_52 : decode cX12_decades 52 = .ok (.iload_n 2, 1) := by decide +kernel
theorem dX12_decades_53 : decode cX12_decades 53 = .ok (.i2l, 1) := by decide +kernel
theorem dX12_decades_54 : decode cX12_decades 54 = .ok (.lstore 4, 2) := by decide +kernel
theorem dX12_decades_56 : decode cX12_decades 56 = .ok (.iconst 0, 1) := by decide +kernel
theorem dX12_decades_57 : decode cX12_decades 57 = .ok (.istore 6, 2) := by decide +kernel
theorem dX12_decades_59 : decode cX12_decades 59 = .ok (.iconst 0, 1) := by decide +kernel
theorem dX12_decades_60 : decode cX12_decades 60 = .ok (.istore 7, 2) := by decide +kernel
theorem dX12_decades_62 : decode cX12_decades 62 = .ok (.iload 7, 2) := by decide +kernel
theorem dX12_decades_64 : decode cX12_decades 64 = .ok (.iload_n 1, 1) := by decide +kernel
theorem dX12_decades_65 : decode cX12_decades 65 = .ok (.if_icmp .ge 62, 3) := by decide +kernel
theorem dX12_decades_68 : decode cX12_decades 68 = .ok (.ldc2_w 218, 3) := by decide +kernel
theorem dX12_decades_71 : decode cX12_decades 71 = .ok (.lload 4, 2) := by decide +kernel
theorem dX12_decades_73 : decode cX12_decades 73 = .ok (.lmul, 1) := by decide +kernel
theorem dX12_decades_74 : decode cX12_decades 74 = .ok (.ldc2_w 220, 3) := by decide +kernel
theorem dX12_decades_77 : decode cX12_decades 77 = .ok (.lrem, 1) := by decide +kernel
theorem dX12_decades_78 : decode cX12_decades 78 = .ok (.lstore 4, 2) := by decide +kernel
theorem dX12_decades_80 : decode cX12_decades 80 = .ok (.aload_n 0, 1) := by decide +kernel
theorem dX12_decades_81 : decode cX12_decades 81 = .ok (.aload_n 0, 1) := by decide +kernel
theorem dX12_decades_82 : decode cX12_decades 82 = .ok (.getfield 22, 3) := by decide +kernel
theorem dX12_decades_85 : decode cX12_decades 85 = .ok (.aload_n 0, 1) := by decide +kernel
theorem dX12_decades_86 : decode cX12_decades 86 = .ok (.lload 4, 2) := by decide +kernel
theorem dX12_decades_88 : decode cX12_decades 88 = .ok (.ldc2_w 188, 3) := by decide +kernel
theorem dX12_decades_91 : decode cX12_decades 91 = .ok (.ldiv, 1) := by decide +kernel
theorem dX12_decades_92 : decode cX12_decades 92 = .ok (.aload_n 0, 1) := by decide +kernel
theorem dX12_decades_93 : decode cX12_decades 93 = .ok (.invokevirtual 190, 3) := by decide +kernel
theorem dX12_decades_96 : decode cX12_decades 96 = .ok (.i2l, 1) := by decide +kernel
theorem dX12_decades_97 : decode cX12_decades 97 = .ok (.lrem, 1) := by decide +kernel
theorem dX12_decades_98 : decode cX12_decades 98 = .ok (.l2i, 1) := by decide +kernel
theorem dX12_decades_99 : decode cX12_decades 99 = .ok (.invokevirtual 196, 3) := by decide +kernel
theorem dX12_decades_102 : decode cX12_decades 102 = .ok (.invokevirtual 179, 3) := by decide +kernel
theorem dX12_decades_105 : decode cX12_decades 105 = .ok (.iload 6, 2) := by decide +kernel
theorem dX12_decades_107 : decode cX12_decades 107 = .ok (.aload_n 0, 1) := by decide +kernel
theorem dX12_decades_108 : decode cX12_decades 108 = .ok (.aload_n 0, 1) := by decide +kernel
theorem dX12_decades_109 : decode cX12_decades 109 = .ok (.getfield 22, 3) := by decide +kernel
theorem dX12_decades_112 : decode cX12_decades 112 = .ok (.invokevirtual 182, 3) := by decide +kernel
theorem dX12_decades_115 : decode cX12_decades 115 = .ok (.invokestatic 199, 3) := by decide +kernel
theorem dX12_decades_118 : decode cX12_decades 118 = .ok (.iadd, 1) := by decide +kernel
theorem dX12_decades_119 : decode cX12_decades 119 = .ok (.istore 6, 2) := by decide +kernel
theorem dX12_decades_121 : decode cX12_decades 121 = .ok (.iinc 7 1, 3) := by decide +kernel
theorem dX12_decades_124 : decode cX12_decades 124 = .ok (.goto (-62), 3) := by decide +kernel
theorem dX12_decades_127 : decode cX12_decades 127 = .ok (.iload_n 3, 1) := by decide +kernel
theorem dX12_decades_128 : decode cX12_decades 128 = .ok (.ifCond .ne 14, 3) := by decide +kernel
theorem dX12_decades_131 : decode cX12_decades 131 = .ok (.aload_n 0, 1) := by decide +kernel
theorem dX12_decades_132 : decode cX12_decades 132 = .ok (.aload_n 0, 1) := by decide +kernel
theorem dX12_decades_133 : decode cX12_decades 133 = .ok (.getfield 22, 3) := by decide +kernel
theorem dX12_decades_136 : decode cX12_decades 136 = .ok (.invokevirtual 222, 3) := by decide +kernel
theorem dX12_decades_139 : decode cX12_decades 139 = .ok (.goto 5, 3) := by decide +kernel
theorem dX12_decades_142 : decode cX12_decades 142 = .ok (.iload 6, 2) := by decide +kernel
theorem dX12_decades_144 : decode cX12_decades 144 = .ok (.ireturn, 1) := by decide +kernel
theorem dX12_isSheet_0 : decode cX12_isSheet 0 = .ok (.iload_n 0, 1) := by decide +kernel
theorem dX12_isSheet_1 : decode cX12_isSheet 1 = .ok (.i2l, 1) := by decide +kernel
theorem dX12_isSheet_2 : decode cX12_isSheet 2 = .ok (.lconst 0, 1) := by decide +kernel
theorem dX12_isSheet_3 : decode cX12_isSheet 3 = .ok (.ldc2_w 170, 3) := by decide +kernel
theorem dX12_isSheet_6 : decode cX12_isSheet 6 = .ok (.invokestatic 59, 3) := by decide +kernel
theorem dX12_isSheet_9 : decode cX12_isSheet 9 = .ok (.ifCond .eq 19, 3) := by decide +kernel
theorem dX12_isSheet_12 : decode cX12_isSheet 12 = .ok (.iload_n 1, 1) := by decide +kernel
theorem dX12_isSheet_13 : decode cX12_isSheet 13 = .ok (.i2l, 1) := by decide +kernel
theorem dX12_isSheet_14 : decode cX12_isSheet 14 = .ok (.lconst 0, 1) := by decide +kernel
theorem dX12_isSheet_15 : decode cX12_isSheet 15 = .ok (.ldc2_w 170, 3) := by decide +kernel
theorem dX12_isSheet_18 : decode cX12_isSheet 18 = .ok (.invokestatic 59, 3) := by decide +kernel
theorem dX12_isSheet_21 : decode cX12_isSheet 21 = .ok (.ifCond .eq 7, 3) := by decide +kernel
theorem dX12_isSheet_24 : decode cX12_isSheet 24 = .ok (.iconst 1, 1) := by decide +kernel
theorem dX12_isSheet_25 : decode cX12_isSheet 25 = .ok (.goto 4, 3) := by decide +kernel
theorem dX12_isSheet_28 : decode cX12_isSheet 28 = .ok (.iconst 0, 1) := by decide +kernel
theorem dX12_isSheet_29 : decode cX12_isSheet 29 = .ok (.ireturn, 1) := by decide +kernel
theorem dX12_found_0 : decode cX12_found 0 = .ok (.aload_n 0, 1) := by decide +kernel
theorem dX12_found_1 : decode cX12_found 1 = .ok (.getfield 38, 3) := by decide +kernel
theorem dX12_found_4 : decode cX12_found 4 = .ok (.iload_n 1, 1) := by decide +kernel
theorem dX12_found_5 : decode cX12_found 5 = .ok (.iaload, 1) := by decide +kernel
theorem dX12_found_6 : decode cX12_found 6 = .ok (.ifCond .ge 6, 3) := by decide +kernel
theorem dX12_found_9 : decode cX12_found 9 = .ok (.bipush (-11), 2) := by decide +kernel
theorem dX12_found_11 : decode cX12_found 11 = .ok (.ireturn, 1) := by decide +kernel
theorem dX12_found_12 : decode cX12_found 12 = .ok (.aload_n 0, 1) := by decide +kernel
theorem dX12_found_13 : decode cX12_found 13 = .ok (.getfield 41, 3) := by decide +kernel
theorem dX12_found_16 : decode cX12_found 16 = .ok (.iload_n 1, 1) := by decide +kernel
theorem dX12_found_17 : decode cX12_found 17 = .ok (.iaload, 1) := by decide +kernel
theorem dX12_found_18 : decode cX12_found 18 = .ok (.iload_n 2, 1) := by decide +kernel
theorem dX12_found_19 : decode cX12_found 19 = .ok (.if_icmp .eq 6, 3) := by decide +kernel
theorem dX12_found_22 : decode cX12_found 22 = .ok (.bipush (-12), 2) := by decide +kernel
theorem dX12_found_24 : decode cX12_found 24 = .ok (.ireturn, 1) := by decide +kernel
theorem dX12_found_25 : decode cX12_found 25 = .ok (.iload_n 3, 1) := by decide +kernel
theorem dX12_found_26 : decode cX12_found 26 = .ok (.ifCond .lt 20, 3) := by decide +kernel
theorem dX12_found_29 : decode cX12_found 29 = .ok (.iload_n 3, 1) := by decide +kernel
theorem dX12_found_30 : decode cX12_found 30 = .ok (.i2l, 1) := by decide +kernel
theorem dX12_found_31 : decode cX12_found 31 = .ok (.iload 4, 2) := by decide +kernel
theorem dX12_found_33 : decode cX12_found 33 = .ok (.i2l, 1) := by decide +kernel
theorem dX12_found_34 : decode cX12_found 34 = .ok (.ladd, 1) := by decide +kernel
theorem dX12_found_35 : decode cX12_found 35 = .ok (.aload_n 0, 1) := by decide +kernel
theorem dX12_found_36 : decode cX12_found 36 = .ok (.getfield 38, 3) := by decide +kernel
theorem dX12_found_39 : decode cX12_found 39 = .ok (.iload_n 1, 1) := by decide +kernel
theorem dX12_found_40 : decode cX12_found 40 = .ok (.iaload, 1) := by decide +kernel
theorem dX12_found_41 : decode cX12_found 41 = .ok (.i2l, 1) := by decide +kernel
theorem dX12_found_42 : decode cX12_found 42 = .ok (.lcmp, 1) := by decide +kernel
theorem dX12_found_43 : decode cX12_found 43 = .ok (.ifCond .le 8, 3) := by decide +kernel
theorem dX12_found_46 : decode cX12_found 46 = .ok (.bipush (-13), 2) := by decide +kernel
theorem dX12_found_48 : decode cX12_found 48 = .ok (.goto 4, 3) := by decide +kernel
theorem dX12_found_51 : decode cX12_found 51 = .ok (.iconst 0, 1) := by decide +kernel
theorem dX12_found_52 : decode cX12_found 52 = .ok (.ireturn, 1) := by decide +kernel
theorem dX12_cut_0 : decode cX12_cut 0 = .ok (.iload_n 0, 1) := by decide +kernel
theorem dX12_cut_1 : decode cX12_cut 1 = .ok (.ifCond .ne 10, 3) := by decide +kernel
theorem dX12_cut_4 : decode cX12_cut 4 = .ok (.lload_n 1, 1) := by decide +kernel
theorem dX12_cut_5 : decode cX12_cut 5 = .ok (.l2i, 1) := by decide +kernel
theorem dX12_cut_6 : decode cX12_cut 6 = .ok (.i2b, 1) := by decide +kernel
theorem dX12_cut_7 : decode cX12_cut 7 = .ok (.i2l, 1) := by decide +kernel
theorem dX12_cut_8 : decode cX12_cut 8 = .ok (.goto 27, 3) := by decide +kernel
theorem dX12_cut_11 : decode cX12_cut 11 = .ok (.iload_n 0, 1) := by decide +kernel
theorem dX12_cut_12 : decode cX12_cut 12 = .ok (.iconst 1, 1) := by decide +kernel
theorem dX12_cut_13 : decode cX12_cut 13 = .ok (.if_icmp .ne 10, 3) := by decide +kernel
theorem dX12_cut_16 : decode cX12_cut 16 = .ok (.lload_n 1, 1) := by decide +kernel
theorem dX12_cut_17 : decode cX12_cut 17 = .ok (.l2i, 1) := by decide +kernel
theorem dX12_cut_18 : decode cX12_cut 18 = .ok (.i2s, 1) := by decide +kernel
theorem dX12_cut_19 : decode cX12_cut 19 = .ok (.i2l, 1) := by decide +kernel
theorem dX12_cut_20 : decode cX12_cut 20 = .ok (.goto 15, 3) := by decide +kernel
theorem dX12_cut_23 : decode cX12_cut 23 = .ok (.iload_n 0, 1) := by decide +kernel
theorem dX12_cut_24 : decode cX12_cut 24 = .ok (.iconst 2, 1) := by decide +kernel
theorem dX12_cut_25 : decode cX12_cut 25 = .ok (.if_icmp .ne 9, 3) := by decide +kernel
theorem dX12_cut_28 : decode cX12_cut 28 = .ok (.lload_n 1, 1) := by decide +kernel
theorem dX12_cut_29 : decode cX12_cut 29 = .ok (.l2i, 1) := by decide +kernel
theorem dX12_cut_30 : decode cX12_cut 30 = .ok (.i2l, 1) := by decide +kernel
theorem dX12_cut_31 : decode cX12_cut 31 = .ok (.goto 4, 3) := by decide +kernel
theorem dX12_cut_34 : decode cX12_cut 34 = .ok (.lload_n 1, 1) := by decide +kernel
theorem dX12_cut_35 : decode cX12_cut 35 = .ok (.lreturn, 1) := by decide +kernel
theorem dX12_log_0 : decode cX12_log 0 = .ok (.aload_n 0, 1) := by decide +kernel
theorem dX12_log_1 : decode cX12_log 1 = .ok (.getfield 7, 3) := by decide +kernel
theorem dX12_log_4 : decode cX12_log 4 = .ok (.iconst 0, 1) := by decide +kernel
theorem dX12_log_5 : decode cX12_log 5 = .ok (.iaload, 1) := by decide +kernel
theorem dX12_log_6 : decode cX12_log 6 = .ok (.ifCond .eq 11, 3) := by decide +kernel
theorem dX12_log_9 : decode cX12_log 9 = .ok (.iload_n 1, 1) := by decide +kernel
theorem dX12_log_10 : decode cX12_log 10 = .ok (.iload_n 2, 1) := by decide +kernel
theorem dX12_log_11 : decode cX12_log 11 = .ok (.invokestatic 225, 3) := by decide +kernel
theorem dX12_log_14 : decode cX12_log 14 = .ok (.ifCond .ne 5, 3) := by decide +kernel
theorem dX12_log_17 : decode cX12_log 17 = .ok (.iconst (-1), 1) := by decide +kernel
theorem dX12_log_18 : decode cX12_log 18 = .ok (.ireturn, 1) := by decide +kernel
theorem dX12_log_19 : decode cX12_log 19 = .ok (.aload_n 0, 1) := by decide +kernel
theorem dX12_log_20 : decode cX12_log 20 = .ok (.iload_n 1, 1) := by decide +kernel
theorem dX12_log_21 : decode cX12_log 21 = .ok (.iload_n 2, 1) := by decide +kernel
theorem dX12_log_22 : decode cX12_log 22 = .ok (.iload_n 3, 1) := by decide +kernel
theorem dX12_log_23 : decode cX12_log 23 = .ok (.aload_n 0, 1) := by decide +kernel
theorem dX12_log_24 : decode cX12_log 24 = .ok (.getfield 7, 3) := by decide +kernel
theorem dX12_log_27 : decode cX12_log 27 = .ok (.iconst 0, 1) := by decide +kernel
theorem dX12_log_28 : decode cX12_log 28 = .ok (.iaload, 1) := by decide +kernel
theorem dX12_log_29 : decode cX12_log 29 = .ok (.invokevirtual 228, 3) := by decide +kernel
theorem dX12_log_32 : decode cX12_log 32 = .ok (.istore 4, 2) := by decide +kernel
theorem dX12_log_34 : decode cX12_log 34 = .ok (.iload 4, 2) := by decide +kernel
theorem dX12_log_36 : decode cX12_log 36 = .ok (.ifCond .ge 6, 3) := by decide +kernel
theorem dX12_log_39 : decode cX12_log 39 = .ok (.iload 4, 2) := by decide +kernel
theorem dX12_log_41 : decode cX12_log 41 = .ok (.ireturn, 1) := by decide +kernel
theorem dX12_log_42 : decode cX12_log 42 = .ok (.iconst 0, 1) := by decide +kernel
theorem dX12_log_43 : decode cX12_log 43 = .ok (.istore 5, 2) := by decide +kernel
theorem dX12_log_45 : decode cX12_log 45 = .ok (.iload 5, 2) := by decide +kernel
theorem dX12_log_47 : decode cX12_log 47 = .ok (.aload_n 0, 1) := by decide +kernel
theorem dX12_log_48 : decode cX12_log 48 = .ok (.getfield 7, 3) := by decide +kernel
theorem dX12_log_51 : decode cX12_log 51 = .ok (.iconst 0, 1) := by decide +kernel
theorem dX12_log_52 : decode cX12_log 52 = .ok (.iaload, 1) := by decide +kernel
theorem dX12_log_53 : decode cX12_log 53 = .ok (.if_icmp .ge 33, 3) := by decide +kernel
theorem dX12_log_56 : decode cX12_log 56 = .ok (.aload_n 0, 1) := by decide +kernel
theorem dX12_log_57 : decode cX12_log 57 = .ok (.getfield 44, 3) := by decide +kernel
theorem dX12_log_60 : decode cX12_log 60 = .ok (.bipush 24, 2) := by decide +kernel
theorem dX12_log_62 : decode cX12_log 62 = .ok (.iload_n 1, 1) := by decide +kernel
theorem dX12_log_63 : decode cX12_log 63 = .ok (.imul, 1) := by decide +kernel
theorem dX12_log_64 : decode cX12_log 64 = .ok (.iload_n 3, 1) := by decide +kernel
theorem dX12_log_65 : decode cX12_log 65 = .ok (.iadd, 1) := by decide +kernel
theorem dX12_log_66 : decode cX12_log 66 = .ok (.iload 5, 2) := by decide +kernel
theorem dX12_log_68 : decode cX12_log 68 = .ok (.iadd, 1) := by decide +kernel
theorem dX12_log_69 : decode cX12_log 69 = .ok (.aload_n 0, 1) := by decide +kernel
theorem dX12_log_70 : decode cX12_log 70 = .ok (.getfield 19, 3) := by decide +kernel
theorem dX12_log_73 : decode cX12_log 73 = .ok (.iload 5, 2) := by decide +kernel
theorem dX12_log_75 : decode cX12_log 75 = .ok (.invokestatic 115, 3) := by decide +kernel
theorem dX12_log_78 : decode cX12_log 78 = .ok (.i2l, 1) := by decide +kernel
theorem dX12_log_79 : decode cX12_log 79 = .ok (.lastore, 1) := by decide +kernel
theorem dX12_log_80 : decode cX12_log 80 = .ok (.iinc 5 1, 3) := by decide +kernel
theorem dX12_log_83 : decode cX12_log 83 = .ok (.goto (-38), 3) := by decide +kernel
theorem dX12_log_86 : decode cX12_log 86 = .ok (.aload_n 0, 1) := by decide +kernel
theorem dX12_log_87 : decode cX12_log 87 = .ok (.getfield 7, 3) := by decide +kernel
theorem dX12_log_90 : decode cX12_log 90 = .ok (.iconst 0, 1) := by decide +kernel
theorem dX12_log_91 : decode cX12_log 91 = .ok (.iaload, 1) := by decide +kernel
theorem dX12_log_92 : decode cX12_log 92 = .ok (.ireturn, 1) := by decide +kernel
theorem dX12_areDoings_0 : decode cX12_areDoings 0 = .ok (.iconst 1, 1) := by decide +kernel
theorem dX12_areDoings_1 : decode cX12_areDoings 1 = .ok (.istore 4, 2) := by decide +kernel
theorem dX12_areDoings_3 : decode cX12_areDoings 3 = .ok (.iconst 0, 1) := by decide +kernel
theorem dX12_areDoings_4 : decode cX12_areDoings 4 = .ok (.istore 5, 2) := by decide +kernel
theorem dX12_areDoings_6 : decode cX12_areDoings 6 = .ok (.iload 5, 2) := by decide +kernel
theorem dX12_areDoings_8 : decode cX12_areDoings 8 = .ok (.iload_n 3, 1) := by decide +kernel
theorem dX12_areDoings_9 : decode cX12_areDoings 9 = .ok (.if_icmp .ge 42, 3) := by decide +kernel
theorem dX12_areDoings_12 : decode cX12_areDoings 12 = .ok (.iload 4, 2) := by decide +kernel
theorem dX12_areDoings_14 : decode cX12_areDoings 14 = .ok (.ifCond .eq 28, 3) := by decide +kernel
theorem dX12_areDoings_17 : decode cX12_areDoings 17 = .ok (.aload_n 0, 1) := by decide +kernel
theorem dX12_areDoings_18 : decode cX12_areDoings 18 = .ok (.aload_n 0, 1) := by decide +kernel
theorem dX12_areDoings_19 : decode cX12_areDoings 19 = .ok (.getfield 44, 3) := by decide +kernel
theorem dX12_areDoings_22 : decode cX12_areDoings 22 = .ok (.bipush 24, 2) := by decide +kernel
theorem dX12_areDoings_24 : decode cX12_areDoings 24 = .ok (.iload_n 1, 1) := by decide +kernel
theorem dX12_areDoings_25 : decode cX12_areDoings 25 = .ok (.imul, 1) := by decide +kernel
theorem dX12_areDoings_26 : decode cX12_areDoings 26 = .ok (.iload_n 2, 1) := by decide +kernel
theorem dX12_areDoings_27 : decode cX12_areDoings 27 = .ok (.iadd, 1) := by decide +kernel
theorem dX12_areDoings_28 : decode cX12_areDoings 28 = .ok (.iload 5, 2) := by decide +kernel
theorem dX12_areDoings_30 : decode cX12_areDoings 30 = .ok (.iadd, 1) := by decide +kernel
theorem dX12_areDoings_31 : decode cX12_areDoings 31 = .ok (.laload, 1) := by decide +kernel
theorem dX12_areDoings_32 : decode cX12_areDoings 32 = .ok (.invokevirtual 175, 3) := by decide +kernel
theorem dX12_areDoings_35 : decode cX12_areDoings 35 = .ok (.ifCond .eq 7, 3) := by decide +kernel
theorem dX12_areDoings_38 : decode cX12_areDoings 38 = .ok (.iconst 1, 1) := by decide +kernel
theorem dX12_areDoings_39 : decode cX12_areDoings 39 = .ok (.goto 4, 3) := by decide +kernel
theorem dX12_areDoings_42 : decode cX12_areDoings 42 = .ok (.iconst 0, 1) := by decide +kernel
theorem dX12_areDoings_43 : decode cX12_areDoings 43 = .ok (.istore 4, 2) := by decide +kernel
theorem dX12_areDoings_45 : decode cX12_areDoings 45 = .ok (.iinc 5 1, 3) := by decide +kernel
theorem dX12_areDoings_48 : decode cX12_areDoings 48 = .ok (.goto (-42), 3) := by decide +kernel
theorem dX12_areDoings_51 : decode cX12_areDoings 51 = .ok (.iload 4, 2) := by decide +kernel
theorem dX12_areDoings_53 : decode cX12_areDoings 53 = .ok (.ireturn, 1) := by decide +kernel
theorem dX12_ahead_0 : decode cX12_ahead 0 = .ok (.aload_n 0, 1) := by decide +kernel
theorem dX12_ahead_1 : decode cX12_ahead 1 = .ok (.iload_n 1, 1) := by decide +kernel
theorem dX12_ahead_2 : decode cX12_ahead 2 = .ok (.invokevirtual 161, 3) := by decide +kernel
theorem dX12_ahead_5 : decode cX12_ahead 5 = .ok (.ifCond .eq 37, 3) := by decide +kernel
theorem dX12_ahead_8 : decode cX12_ahead 8 = .ok (.iload_n 2, 1) := by decide +kernel
theorem dX12_ahead_9 : decode cX12_ahead 9 = .ok (.iload_n 3, 1) := by decide +kernel
theorem dX12_ahead_10 : decode cX12_ahead 10 = .ok (.invokestatic 225, 3) := by decide +kernel
theorem dX12_ahead_13 : decode cX12_ahead 13 = .ok (.ifCond .eq 29, 3) := by decide +kernel
theorem dX12_ahead_16 : decode cX12_ahead 16 = .ok (.iload 5, 2) := by decide +kernel
theorem dX12_ahead_18 : decode cX12_ahead 18 = .ok (.i2l, 1) := by decide +kernel
theorem dX12_ahead_19 : decode cX12_ahead 19 = .ok (.lconst 0, 1) := by decide +kernel
theorem dX12_ahead_20 : decode cX12_ahead 20 = .ok (.ldc2_w 143, 3) := by decide +kernel
theorem dX12_ahead_23 : decode cX12_ahead 23 = .ok (.invokestatic 59, 3) := by decide +kernel
theorem dX12_ahead_26 : decode cX12_ahead 26 = .ok (.ifCond .eq 16, 3) := by decide +kernel
theorem dX12_ahead_29 : decode cX12_ahead 29 = .ok (.iload 6, 2) := by decide +kernel
theorem dX12_ahead_31 : decode cX12_ahead 31 = .ok (.i2l, 1) := by decide +kernel
theorem dX12_ahead_32 : decode cX12_ahead 32 = .ok (.lconst 0, 1) := by decide +kernel
theorem dX12_ahead_33 : decode cX12_ahead 33 = .ok (.ldc2_w 168, 3) := by decide +kernel
theorem dX12_ahead_36 : decode cX12_ahead 36 = .ok (.invokestatic 59, 3) := by decide +kernel
theorem dX12_ahead_39 : decode cX12_ahead 39 = .ok (.ifCond .ne 5, 3) := by decide +kernel
theorem dX12_ahead_42 : decode cX12_ahead 42 = .ok (.iconst (-1), 1) := by decide +kernel
theorem dX12_ahead_43 : decode cX12_ahead 43 = .ok (.ireturn, 1) := by decide +kernel
theorem dX12_ahead_44 : decode cX12_ahead 44 = .ok (.aload_n 0, 1) := by decide +kernel
theorem dX12_ahead_45 : decode cX12_ahead 45 = .ok (.iload_n 2, 1) := by decide +kernel
theorem dX12_ahead_46 : decode cX12_ahead 46 = .ok (.iload_n 3, 1) := by decide +kernel
theorem dX12_ahead_47 : decode cX12_ahead 47 = .ok (.iload 4, 2) := by decide +kernel
theorem dX12_ahead_49 : decode cX12_ahead 49 = .ok (.iload 5, 2) := by decide +kernel
theorem dX12_ahead_51 : decode cX12_ahead 51 = .ok (.invokevirtual 228, 3) := by decide +kernel
theorem dX12_ahead_54 : decode cX12_ahead 54 = .ok (.istore 7, 2) := by decide +kernel
theorem dX12_ahead_56 : decode cX12_ahead 56 = .ok (.iload 7, 2) := by decide +kernel
theorem dX12_ahead_58 : decode cX12_ahead 58 = .ok (.ifCond .ge 6, 3) := by decide +kernel
theorem dX12_ahead_61 : decode cX12_ahead 61 = .ok (.iload 7, 2) := by decide +kernel
theorem dX12_ahead_63 : decode cX12_ahead 63 = .ok (.ireturn, 1) := by decide +kernel
theorem dX12_ahead_64 : decode cX12_ahead 64 = .ok (.aload_n 0, 1) := by decide +kernel
theorem dX12_ahead_65 : decode cX12_ahead 65 = .ok (.iload_n 2, 1) := by decide +kernel
theorem dX12_ahead_66 : decode cX12_ahead 66 = .ok (.iload 4, 2) := by decide +kernel
theorem dX12_ahead_68 : decode cX12_ahead 68 = .ok (.iload 5, 2) := by decide +kernel
theorem dX12_ahead_70 : decode cX12_ahead 70 = .ok (.invokevirtual 232, 3) := by decide +kernel
theorem dX12_ahead_73 : decode cX12_ahead 73 = .ok (.ifCond .ne 6, 3) := by decide +kernel
theorem dX12_ahead_76 : decode cX12_ahead 76 = .ok (.bipush (-2), 2) := by decide +kernel
theorem dX12_ahead_78 : decode cX12_ahead 78 = .ok (.ireturn, 1) := by decide +kernel
theorem dX12_ahead_79 : decode cX12_ahead 79 = .ok (.aload_n 0, 1) := by decide +kernel
theorem dX12_ahead_80 : decode cX12_ahead 80 = .ok (.invokevirtual 193, 3) := by decide +kernel
theorem dX12_ahead_83 : decode cX12_ahead 83 = .ok (.iconst 0, 1) := by decide +kernel
theorem dX12_ahead_84 : decode cX12_ahead 84 = .ok (.istore 8, 2) := by decide +kernel
theorem dX12_ahead_86 : decode cX12_ahead 86 = .ok (.iload 8, 2) := by decide +kernel
theorem dX12_ahead_88 : decode cX12_ahead 88 = .ok (.iload 5, 2) := by decide +kernel
theorem dX12_ahead_90 : decode cX12_ahead 90 = .ok (.if_icmp .ge 34, 3) := by decide +kernel
theorem dX12_ahead_93 : decode cX12_ahead 93 = .ok (.aload_n 0, 1) := by decide +kernel
theorem dX12_ahead_94 : decode cX12_ahead 94 = .ok (.aload_n 0, 1) := by decide +kernel
theorem dX12_ahead_95 : decode cX12_ahead 95 = .ok (.getfield 22, 3) := by decide +kernel
theorem dX12_ahead_98 : decode cX12_ahead 98 = .ok (.iload_n 1, 1) := by decide +kernel
theorem dX12_ahead_99 : decode cX12_ahead 99 = .ok (.aload_n 0, 1) := by decide +kernel
theorem dX12_ahead_100 : decode cX12_ahead 100 = .ok (.getfield 44, 3) := by decide +kernel
theorem dX12_ahead_103 : decode cX12_ahead 103 = .ok (.bipush 24, 2) := by decide +kernel
theorem dX12_ahead_105 : decode cX12_ahead 105 = .ok (.iload_n 2, 1) := by decide +kernel
theorem dX12_ahead_106 : decode cX12_ahead 106 = .ok (.imul, 1) := by decide +kernel
theorem dX12_ahead_107 : decode cX12_ahead 107 = .ok (.iload 4, 2) := by decide +kernel
theorem dX12_ahead_109 : decode cX12_ahead 109 = .ok (.iadd, 1) := by decide +kernel
theorem dX12_ahead_110 : decode cX12_ahead 110 = .ok (.iload 8, 2) := by decide +kernel
theorem dX12_ahead_112 : decode cX12_ahead 112 = .ok (.iadd, 1) := by decide +kernel
theorem dX12_ahead_113 : decode cX12_ahead 113 = .ok (.laload, 1) := by decide +kernel
theorem dX12_ahead_114 : decode cX12_ahead 114 = .ok (.l2i, 1) := by decide +kernel
theorem dX12_ahead_115 : decode cX12_ahead 115 = .ok (.invokevirtual 158, 3) := by decide +kernel
theorem dX12_ahead_118 : decode cX12_ahead 118 = .ok (.iinc 8 1, 3) := by decide +kernel
theorem dX12_ahead_121 : decode cX12_ahead 121 = .ok (.goto (-35), 3) := by decide +kernel
theorem dX12_ahead_124 : decode cX12_ahead 124 = .ok (.iload 6, 2) := by decide +kernel
theorem dX12_ahead_126 : decode cX12_ahead 126 = .ok (.ifCond .ne 14, 3) := by decide +kernel
theorem dX12_ahead_129 : decode cX12_ahead 129 = .ok (.aload_n 0, 1) := by decide +kernel
theorem dX12_ahead_130 : decode cX12_ahead 130 = .ok (.getfield 22, 3) := by decide +kernel
theorem dX12_ahead_133 : decode cX12_ahead 133 = .ok (.iload_n 1, 1) := by decide +kernel
theorem dX12_ahead_134 : decode cX12_ahead 134 = .ok (.invokestatic 115, 3) := by decide +kernel
theorem dX12_ahead_137 : decode cX12_ahead 137 = .ok (.goto 29, 3) := by decide +kernel
theorem dX12_ahead_140 : decode cX12_ahead 140 = .ok (.iload 6, 2) := by decide +kernel
theorem dX12_ahead_142 : decode cX12_ahead 142 = .ok (.iconst 1, 1) := by decide +kernel
theorem dX12_ahead_143 : decode cX12_ahead 143 = .ok (.if_icmp .ne 14, 3) := by decide +kernel
theorem dX12_ahead_146 : decode cX12_ahead 146 = .ok (.aload_n 0, 1) := by decide +kernel
theorem dX12_ahead_147 : decode cX12_ahead 147 = .ok (.getfield 22, 3) := by decide +kernel
theorem dX12_ahead_150 : decode cX12_ahead 150 = .ok (.iload_n 1, 1) := by decide +kernel
theorem dX12_ahead_151 : decode cX12_ahead 151 = .ok (.invokestatic 123, 3) := by decide +kernel
theorem dX12_ahead_154 : decode cX12_ahead 154 = .ok (.goto 12, 3) := by decide +kernel
theorem dX12_ahead_157 : decode cX12_ahead 157 = .ok (.aload_n 0, 1) := by decide +kernel
theorem dX12_ahead_158 : decode cX12_ahead 158 = .ok (.getfield 22, 3) := by decide +kernel
theorem dX12_ahead_161 : decode cX12_ahead 161 = .ok (.bipush 24, 2) := by decide +kernel
theorem dX12_ahead_163 : decode cX12_ahead 163 = .ok (.iload_n 1, 1) := by decide +kernel
theorem dX12_ahead_164 : decode cX12_ahead 164 = .ok (.iadd, 1) := by decide +kernel
theorem dX12_ahead_165 : decode cX12_ahead 165 = .ok (.iaload, 1) := by decide +kernel
theorem dX12_ahead_166 : decode cX12_ahead 166 = .ok (.ireturn, 1) := by decide +kernel
