theorem dX12_cloth_0 : decode cX12_cloth 0 = .ok (.aload_n 0, 1) := by decide +kernel
theorem dX12_cloth_1 : decode cX12_cloth 1 = .ok (.invokevirtual 102, 3) := by decide +kernel
theorem dX12_cloth_4 : decode cX12_cloth 4 = .ok (.istore_n 1, 1) := by decide +kernel
theorem dX12_cloth_5 : decode cX12_cloth 5 = .ok (.aload_n 0, 1) := by decide +kernel
theorem dX12_cloth_6 : decode cX12_cloth 6 = .ok (.iconst 0, 1) := by decide +kernel
theorem dX12_cloth_7 : decode cX12_cloth 7 = .ok (.putfield 63, 3) := by decide +kernel
theorem dX12_cloth_10 : decode cX12_cloth 10 = .ok (.iload_n 1, 1) := by decide +kernel
theorem dX12_cloth_11 : decode cX12_cloth 11 = .ok (.ifCond .ne 11, 3) := by decide +kernel
theorem dX12_cloth_14 : decode cX12_cloth 14 = .ok (.bipush (-100), 2) := by decide +kernel
theorem dX12_cloth_16 : decode cX12_cloth 16 = .ok (.aload_n 0, 1) := by decide +kernel
theorem dX12_cloth_17 : decode cX12_cloth 17 = .ok (.getfield 67, 3) := by decide +kernel
theorem dX12_cloth_20 : decode cX12_cloth 20 = .ok (.isub, 1) := by decide +kernel
theorem dX12_cloth_21 : decode cX12_cloth 21 = .ok (.ireturn, 1) := by decide +kernel
theorem dX12_cloth_22 : decode cX12_cloth 22 = .ok (.aload_n 0, 1) := by decide +kernel
theorem dX12_cloth_23 : decode cX12_cloth 23 = .ok (.getfield 13, 3) := by decide +kernel
theorem dX12_cloth_26 : decode cX12_cloth 26 = .ok (.iconst 0, 1) := by decide +kernel
theorem dX12_cloth_27 : decode cX12_cloth 27 = .ok (.aload_n 0, 1) := by decide +kernel
theorem dX12_cloth_28 : decode cX12_cloth 28 = .ok (.getfield 7, 3) := by decide +kernel
theorem dX12_cloth_31 : decode cX12_cloth 31 = .ok (.iconst 0, 1) := by decide +kernel
theorem dX12_cloth_32 : decode cX12_cloth 32 = .ok (.bipush 26, 2) := by decide +kernel
theorem dX12_cloth_34 : decode cX12_cloth 34 = .ok (.invokestatic 105, 3) := by decide +kernel
theorem dX12_cloth_37 : decode cX12_cloth 37 = .ok (.iconst 0, 1) := by decide +kernel
theorem dX12_cloth_38 : decode cX12_cloth 38 = .ok (.istore_n 2, 1) := by decide +kernel
theorem dX12_cloth_39 : decode cX12_cloth 39 = .ok (.iload_n 2, 1) := by decide +kernel
theorem dX12_cloth_40 : decode cX12_cloth 40 = .ok (.bipush 32, 2) := by decide +kernel
theorem dX12_cloth_42 : decode cX12_cloth 42 = .ok (.if_icmp .ge 16, 3) := by decide +kernel
theorem dX12_cloth_45 : decode cX12_cloth 45 = .ok (.aload_n 0, 1) := by decide +kernel
theorem dX12_cloth_46 : decode cX12_cloth 46 = .ok (.getfield 19, 3) := by decide +kernel
theorem dX12_cloth_49 : decode cX12_cloth 49 = .ok (.iload_n 2, 1) := by decide +kernel
theorem dX12_cloth_50 : decode cX12_cloth 50 = .ok (.iconst 0, 1) := by decide +kernel
theorem dX12_cloth_51 : decode cX12_cloth 51 = .ok (.iastore, 1) := by decide +kernel
theorem dX12_cloth_52 : decode cX12_cloth 52 = .ok (.iinc 2 1, 3) := by decide +kernel
theorem dX12_cloth_55 : decode cX12_cloth 55 = .ok (.goto (-16), 3) := by decide +kernel
theorem dX12_cloth_58 : decode cX12_cloth 58 = .ok (.aload_n 0, 1) := by decide +kernel
theorem dX12_cloth_59 : decode cX12_cloth 59 = .ok (.getfield 16, 3) := by decide +kernel
theorem dX12_cloth_62 : decode cX12_cloth 62 = .ok (.iconst 0, 1) := by decide +kernel
theorem dX12_cloth_63 : decode cX12_cloth 63 = .ok (.aload_n 0, 1) := by decide +kernel
theorem dX12_cloth_64 : decode cX12_cloth 64 = .ok (.getfield 19, 3) := by decide +kernel
theorem dX12_cloth_67 : decode cX12_cloth 67 = .ok (.bipush 32, 2) := by decide +kernel
theorem dX12_cloth_69 : decode cX12_cloth 69 = .ok (.bipush 8, 2) := by decide +kernel
theorem dX12_cloth_71 : decode cX12_cloth 71 = .ok (.invokestatic 105, 3) := by decide +kernel
theorem dX12_cloth_74 : decode cX12_cloth 74 = .ok (.aload_n 0, 1) := by decide +kernel
theorem dX12_cloth_75 : decode cX12_cloth 75 = .ok (.iconst 0, 1) := by decide +kernel
theorem dX12_cloth_76 : decode cX12_cloth 76 = .ok (.putfield 109, 3) := by decide +kernel
theorem dX12_cloth_79 : decode cX12_cloth 79 = .ok (.aload_n 0, 1) := by decide +kernel
theorem dX12_cloth_80 : decode cX12_cloth 80 = .ok (.iconst 0, 1) := by decide +kernel
theorem dX12_cloth_81 : decode cX12_cloth 81 = .ok (.putfield 112, 3) := by decide +kernel
theorem dX12_cloth_84 : decode cX12_cloth 84 = .ok (.aload_n 0, 1) := by decide +kernel
theorem dX12_cloth_85 : decode cX12_cloth 85 = .ok (.getfield 7, 3) := by decide +kernel
theorem dX12_cloth_88 : decode cX12_cloth 88 = .ok (.iconst 0, 1) := by decide +kernel
theorem dX12_cloth_89 : decode cX12_cloth 89 = .ok (.iaload, 1) := by decide +kernel
theorem dX12_cloth_90 : decode cX12_cloth 90 = .ok (.ireturn, 1) := by decide +kernel
theorem dX12_isSquare_0 : decode cX12_isSquare 0 = .ok (.iload_n 1, 1) := by decide +kernel
theorem dX12_isSquare_1 : decode cX12_isSquare 1 = .ok (.i2l, 1) := by decide +kernel
theorem dX12_isSquare_2 : decode cX12_isSquare 2 = .ok (.lconst 0, 1) := by decide +kernel
theorem dX12_isSquare_3 : decode cX12_isSquare 3 = .ok (.aload_n 0, 1) := by decide +kernel
theorem dX12_isSquare_4 : decode cX12_isSquare 4 = .ok (.getfield 7, 3) := by decide +kernel
theorem dX12_isSquare_7 : decode cX12_isSquare 7 = .ok (.iconst 0, 1) := by decide +kernel
theorem dX12_isSquare_8 : decode cX12_isSquare 8 = .ok (.iaload, 1) := by decide +kernel
theorem dX12_isSquare_9 : decode cX12_isSquare 9 = .ok (.iconst 1, 1) := by decide +kernel
theorem dX12_isSquare_10 : decode cX12_isSquare 10 = .ok (.isub, 1) := by decide +kernel
theorem dX12_isSquare_11 : decode cX12_isSquare 11 = .ok (.i2l, 1) := by decide +kernel
theorem dX12_isSquare_12 : decode cX12_isSquare 12 = .ok (.invokestatic 59, 3) := by decide +kernel
theorem dX12_isSquare_15 : decode cX12_isSquare 15 = .ok (.ireturn, 1) := by decide +kernel
theorem dX12_isDye_0 : decode cX12_isDye 0 = .ok (.iload_n 1, 1) := by decide +kernel
theorem dX12_isDye_1 : decode cX12_isDye 1 = .ok (.i2l, 1) := by decide +kernel
theorem dX12_isDye_2 : decode cX12_isDye 2 = .ok (.lconst 0, 1) := by decide +kernel
theorem dX12_isDye_3 : decode cX12_isDye 3 = .ok (.aload_n 0, 1) := by decide +kernel
theorem dX12_isDye_4 : decode cX12_isDye 4 = .ok (.getfield 7, 3) := by decide +kernel
theorem dX12_isDye_7 : decode cX12_isDye 7 = .ok (.iconst 1, 1) := by decide +kernel
theorem dX12_isDye_8 : decode cX12_isDye 8 = .ok (.iaload, 1) := by decide +kernel
theorem dX12_isDye_9 : decode cX12_isDye 9 = .ok (.iconst 1, 1) := by decide +kernel
theorem dX12_isDye_10 : decode cX12_isDye 10 = .ok (.isub, 1) := by decide +kernel
theorem dX12_isDye_11 : decode cX12_isDye 11 = .ok (.i2l, 1) := by decide +kernel
theorem dX12_isDye_12 : decode cX12_isDye 12 = .ok (.invokestatic 59, 3) := by decide +kernel
theorem dX12_isDye_15 : decode cX12_isDye 15 = .ok (.ireturn, 1) := by decide +kernel
theorem dX12_hueOf_0 : decode cX12_hueOf 0 = .ok (.iconst 0, 1) := by decide +kernel
theorem dX12_hueOf_1 : decode cX12_hueOf 1 = .ok (.istore_n 2, 1) := by decide +kernel
theorem dX12_hueOf_2 : decode cX12_hueOf 2 = .ok (.iconst 0, 1) := by decide +kernel
theorem dX12_hueOf_3 : decode cX12_hueOf 3 = .ok (.istore_n 3, 1) := by decide +kernel
theorem dX12_hueOf_4 : decode cX12_hueOf 4 = .ok (.iload_n 3, 1) := by decide +kernel
theorem dX12_hueOf_5 : decode cX12_hueOf 5 = .ok (.iconst 3, 1) := by decide +kernel
theorem dX12_hueOf_6 : decode cX12_hueOf 6 = .ok (.if_icmp .ge 33, 3) := by decide +kernel
theorem dX12_hueOf_9 : decode cX12_hueOf 9 = .ok (.aload_n 0, 1) := by decide +kernel
theorem dX12_hueOf_10 : decode cX12_hueOf 10 = .ok (.iconst 0, 1) := by decide +kernel
theorem dX12_hueOf_11 : decode cX12_hueOf 11 = .ok (.iconst 3, 1) := by decide +kernel
theorem dX12_hueOf_12 : decode cX12_hueOf 12 = .ok (.iload_n 1, 1) := by decide +kernel
theorem dX12_hueOf_13 : decode cX12_hueOf 13 = .ok (.imul, 1) := by decide +kernel
theorem dX12_hueOf_14 : decode cX12_hueOf 14 = .ok (.iadd, 1) := by decide +kernel
theorem dX12_hueOf_15 : decode cX12_hueOf 15 = .ok (.iload_n 3, 1) := by decide +kernel
theorem dX12_hueOf_16 : decode cX12_hueOf 16 = .ok (.iadd, 1) := by decide +kernel
theorem dX12_hueOf_17 : decode cX12_hueOf 17 = .ok (.iaload, 1) := by decide +kernel
theorem dX12_hueOf_18 : decode cX12_hueOf 18 = .ok (.istore 4, 2) := by decide +kernel
theorem dX12_hueOf_20 : decode cX12_hueOf 20 = .ok (.iload 4, 2) := by decide +kernel
theorem dX12_hueOf_22 : decode cX12_hueOf 22 = .ok (.iload_n 2, 1) := by decide +kernel
theorem dX12_hueOf_23 : decode cX12_hueOf 23 = .ok (.if_icmp .le 8, 3) := by decide +kernel
theorem dX12_hueOf_26 : decode cX12_hueOf 26 = .ok (.iload 4, 2) := by decide +kernel
theorem dX12_hueOf_28 : decode cX12_hueOf 28 = .ok (.goto 4, 3) := by decide +kernel
theorem dX12_hueOf_31 : decode cX12_hueOf 31 = .ok (.iload_n 2, 1) := by decide +kernel
theorem dX12_hueOf_32 : decode cX12_hueOf 32 = .ok (.istore_n 2, 1) := by decide +kernel
theorem dX12_hueOf_33 : decode cX12_hueOf 33 = .ok (.iinc 3 1, 3) := by decide +kernel
theorem dX12_hueOf_36 : decode cX12_hueOf 36 = .ok (.goto (-32), 3) := by decide +kernel
theorem dX12_hueOf_39 : decode cX12_hueOf 39 = .ok (.iconst 0, 1) := by decide +kernel
theorem dX12_hueOf_40 : decode cX12_hueOf 40 = .ok (.istore_n 3, 1) := by decide +kernel
theorem dX12_hueOf_41 : decode cX12_hueOf 41 = .ok (.iconst 0, 1) := by decide +kernel
theorem dX12_hueOf_42 : decode cX12_hueOf 42 = .ok (.istore 4, 2) := by decide +kernel
theorem dX12_hueOf_44 : decode cX12_hueOf 44 = .ok (.iload 4, 2) := by decide +kernel
theorem dX12_hueOf_46 : decode cX12_hueOf 46 = .ok (.iconst 3, 1) := by decide +kernel
theorem dX12_hueOf_47 : decode cX12_hueOf 47 = .ok (.if_icmp .ge 45, 3) := by decide +kernel
theorem dX12_hueOf_50 : decode cX12_hueOf 50 = .ok (.aload_n 0, 1) := by decide +kernel
theorem dX12_hueOf_51 : decode cX12_hueOf 51 = .ok (.iconst 0, 1) := by decide +kernel
theorem dX12_hueOf_52 : decode cX12_hueOf 52 = .ok (.iconst 3, 1) := by decide +kernel
theorem dX12_hueOf_53 : decode cX12_hueOf 53 = .ok (.iload_n 1, 1) := by decide +kernel
theorem dX12_hueOf_54 : decode cX12_hueOf 54 = .ok (.imul, 1) := by decide +kernel
theorem dX12_hueOf_55 : decode cX12_hueOf 55 = .ok (.iadd, 1) := by decide +kernel
theorem dX12_hueOf_56 : decode cX12_hueOf 56 = .ok (.iload 4, 2) := by decide +kernel
theorem dX12_hueOf_58 : decode cX12_hueOf 58 = .ok (.iadd, 1) := by decide +kernel
theorem dX12_hueOf_59 : decode cX12_hueOf 59 = .ok (.iaload, 1) := by decide +kernel
theorem dX12_hueOf_60 : decode cX12_hueOf 60 = .ok (.istore 5, 2) := by decide +kernel
theorem dX12_hueOf_62 : decode cX12_hueOf 62 = .ok (.iload_n 3, 1) := by decide +kernel
theorem dX12_hueOf_63 : decode cX12_hueOf 63 = .ok (.iload 5, 2) := by decide +kernel
theorem dX12_hueOf_65 : decode cX12_hueOf 65 = .ok (.ifCond .le 18, 3) := by decide +kernel
theorem dX12_hueOf_68 : decode cX12_hueOf 68 = .ok (.iconst 2, 1) := by decide +kernel
theorem dX12_hueOf_69 : decode cX12_hueOf 69 = .ok (.iload 5, 2) := by decide +kernel
theorem dX12_hueOf_71 : decode cX12_hueOf 71 = .ok (.imul, 1) := by decide +kernel
theorem dX12_hueOf_72 : decode cX12_hueOf 72 = .ok (.iload_n 2, 1) := by decide +kernel
theorem dX12_hueOf_73 : decode cX12_hueOf 73 = .ok (.if_icmp .lt 10, 3) := by decide +kernel
theorem dX12_hueOf_76 : decode cX12_hueOf 76 = .ok (.iconst 1, 1) := by decide +kernel
theorem dX12_hueOf_77 : decode cX12_hueOf 77 = .ok (.iload 4, 2) := by decide +kernel
theorem dX12_hueOf_79 : decode cX12_hueOf 79 = .ok (.ishl, 1) := by decide +kernel
theorem dX12_hueOf_80 : decode cX12_hueOf 80 = .ok (.goto 4, 3) := by decide +kernel
theorem dX12_hueOf_83 : decode cX12_hueOf 83 = .ok (.iconst 0, 1) := by decide +kernel
theorem dX12_hueOf_84 : decode cX12_hueOf 84 = .ok (.ior, 1) := by decide +kernel
theorem dX12_hueOf_85 : decode cX12_hueOf 85 = .ok (.istore_n 3, 1) := by decide +kernel
theorem dX12_hueOf_86 : decode cX12_hueOf 86 = .ok (.iinc 4 1, 3) := by decide +kernel
theorem dX12_hueOf_89 : decode cX12_hueOf 89 = .ok (.goto (-45), 3) := by decide +kernel
theorem dX12_hueOf_92 : decode cX12_hueOf 92 = .ok (.iload_n 3, 1) := by decide +kernel
theorem dX12_hueOf_93 : decode cX12_hueOf 93 = .ok (.ireturn, 1) := by decide +kernel
theorem dX12_darkOf_0 : decode cX12_darkOf 0 = .ok (.aload_n 0, 1) := by decide +kernel
theorem dX12_darkOf_1 : decode cX12_darkOf 1 = .ok (.iconst 0, 1) := by decide +kernel
theorem dX12_darkOf_2 : decode cX12_darkOf 2 = .ok (.iconst 3, 1) := by decide +kernel
theorem dX12_darkOf_3 : decode cX12_darkOf 3 = .ok (.iload_n 1, 1) := by decide +kernel
theorem dX12_darkOf_4 : decode cX12_darkOf 4 = .ok (.imul, 1) := by decide +kernel
theorem dX12_darkOf_5 : decode cX12_darkOf 5 = .ok (.iadd, 1) := by decide +kernel
theorem dX12_darkOf_6 : decode cX12_darkOf 6 = .ok (.iaload, 1) := by decide +kernel
theorem dX12_darkOf_7 : decode cX12_darkOf 7 = .ok (.aload_n 0, 1) := by decide +kernel
theorem dX12_darkOf_8 : decode cX12_darkOf 8 = .ok (.iconst 0, 1) := by decide +kernel
theorem dX12_darkOf_9 : decode cX12_darkOf 9 = .ok (.iconst 3, 1) := by decide +kernel
theorem dX12_darkOf_10 : decode cX12_darkOf 10 = .ok (.iload_n 1, 1) := by decide +kernel
theorem dX12_darkOf_11 : decode cX12_darkOf 11 = .ok (.imul, 1) := by decide +kernel
theorem dX12_darkOf_12 : decode cX12_darkOf 12 = .ok (.iadd, 1) := by decide +kernel
theorem dX12_darkOf_13 : decode cX12_darkOf 13 = .ok (.iconst 1, 1) := by decide +kernel
theorem dX12_darkOf_14 : decode cX12_darkOf 14 = .ok (.iadd, 1) := by decide +kernel
theorem dX12_darkOf_15 : decode cX12_darkOf 15 = .ok (.iaload, 1) := by decide +kernel
theorem dX12_darkOf_16 : decode cX12_darkOf 16 = .ok (.iadd, 1) := by decide +kernel
theorem dX12_darkOf_17 : decode cX12_darkOf 17 = .ok (.aload_n 0, 1) := by decide +kernel
theorem dX12_darkOf_18 : decode cX12_darkOf 18 = .ok (.iconst 0, 1) := by decide +kernel
theorem dX12_darkOf_19 : decode cX12_darkOf 19 = .ok (.iconst 3, 1) := by decide +kernel
theorem dX12_darkOf_20 : decode cX12_darkOf 20 = .ok (.iload_n 1, 1) := by decide +kernel
theorem dX12_darkOf_21 : decode cX12_darkOf 21 = .ok (.imul, 1) := by decide +kernel
theorem dX12_darkOf_22 : decode cX12_darkOf 22 = .ok (.iadd, 1) := by decide +kernel
theorem dX12_darkOf_23 : decode cX12_darkOf 23 = .ok (.iconst 2, 1) := by decide +kernel
theorem dX12_darkOf_24 : decode cX12_darkOf 24 = .ok (.iadd, 1) := by decide +kernel
theorem dX12_darkOf_25 : decode cX12_darkOf 25 = .ok (.iaload, 1) := by decide +kernel
theorem dX12_darkOf_26 : decode cX12_darkOf 26 = .ok (.iadd, 1) := by decide +kernel
theorem dX12_darkOf_27 : decode cX12_darkOf 27 = .ok (.ireturn, 1) := by decide +kernel
theorem dX12_isRight_0 : decode cX12_isRight 0 = .ok (.aload_n 0, 1) := by decide +kernel
theorem dX12_isRight_1 : decode cX12_isRight 1 = .ok (.iload_n 1, 1) := by decide +kernel
theorem dX12_isRight_2 : decode cX12_isRight 2 = .ok (.invokestatic 115, 3) := by decide +kernel
theorem dX12_isRight_5 : decode cX12_isRight 5 = .ok (.aload_n 0, 1) := by decide +kernel
theorem dX12_isRight_6 : decode cX12_isRight 6 = .ok (.bipush 32, 2) := by decide +kernel
theorem dX12_isRight_8 : decode cX12_isRight 8 = .ok (.iload_n 1, 1) := by decide +kernel
theorem dX12_isRight_9 : decode cX12_isRight 9 = .ok (.iadd, 1) := by decide +kernel
theorem dX12_isRight_10 : decode cX12_isRight 10 = .ok (.iaload, 1) := by decide +kernel
theorem dX12_isRight_11 : decode cX12_isRight 11 = .ok (.if_icmp .ne 7, 3) := by decide +kernel
theorem dX12_isRight_14 : decode cX12_isRight 14 = .ok (.iconst 1, 1) := by decide +kernel
theorem dX12_isRight_15 : decode cX12_isRight 15 = .ok (.goto 4, 3) := by decide +kernel
theorem dX12_isRight_18 : decode cX12_isRight 18 = .ok (.iconst 0, 1) := by decide +kernel
theorem dX12_isRight_19 : decode cX12_isRight 19 = .ok (.ireturn, 1) := by decide +kernel
theorem dX12_rightOn_0 : decode cX12_rightOn 0 = .ok (.iconst 0, 1) := by decide +kernel
theorem dX12_rightOn_1 : decode cX12_rightOn 1 = .ok (.istore_n 2, 1) := by decide +kernel
theorem dX12_rightOn_2 : decode cX12_rightOn 2 = .ok (.iconst 0, 1) := by decide +kernel
theorem dX12_rightOn_3 : decode cX12_rightOn 3 = .ok (.istore_n 3, 1) := by decide +kernel
theorem dX12_rightOn_4 : decode cX12_rightOn 4 = .ok (.iload_n 3, 1) := by decide +kernel
theorem dX12_rightOn_5 : decode cX12_rightOn 5 = .ok (.aload_n 0, 1) := by decide +kernel
theorem dX12_rightOn_6 : decode cX12_rightOn 6 = .ok (.getfield 7, 3) := by decide +kernel
theorem dX12_rightOn_9 : decode cX12_rightOn 9 = .ok (.iconst 0, 1) := by decide +kernel
theorem dX12_rightOn_10 : decode cX12_rightOn 10 = .ok (.iaload, 1) := by decide +kernel
theorem dX12_rightOn_11 : decode cX12_rightOn 11 = .ok (.if_icmp .ge 27, 3) := by decide +kernel
theorem dX12_rightOn_14 : decode cX12_rightOn 14 = .ok (.iload_n 2, 1) := by decide +kernel
theorem dX12_rightOn_15 : decode cX12_rightOn 15 = .ok (.aload_n 1, 1) := by decide +kernel
theorem dX12_rightOn_16 : decode cX12_rightOn 16 = .ok (.iload_n 3, 1) := by decide +kernel
theorem dX12_rightOn_17 : decode cX12_rightOn 17 = .ok (.invokestatic 119, 3) := by decide +kernel
theorem dX12_rightOn_20 : decode cX12_rightOn 20 = .ok (.ifCond .eq 9, 3) := by decide +kernel
theorem dX12_rightOn_23 : decode cX12_rightOn 23 = .ok (.iconst 1, 1) := by decide +kernel
theorem dX12_rightOn_24 : decode cX12_rightOn 24 = .ok (.iload_n 3, 1) := by decide +kernel
theorem dX12_rightOn_25 : decode cX12_rightOn 25 = .ok (.ishl, 1) := by decide +kernel
theorem dX12_rightOn_26 : decode cX12_rightOn 26 = .ok (.goto 4, 3) := by decide +kernel
theorem dX12_rightOn_29 : decode cX12_rightOn 29 = .ok (.iconst 0, 1) := by decide +kernel
theorem dX12_rightOn_30 : decode cX12_rightOn 30 = .ok (.ior, 1) := by decide +kernel
theorem dX12_rightOn_31 : decode cX12_rightOn 31 = .ok (.istore_n 2, 1) := by decide +kernel
theorem dX12_rightOn_32 : decode cX12_rightOn 32 = .ok (.iinc 3 1, 3) := by decide +kernel
theorem dX12_rightOn_35 : decode cX12_rightOn 35 = .ok (.goto (-31), 3) := by decide +kernel
theorem dX12_rightOn_38 : decode cX12_rightOn 38 = .ok (.iload_n 2, 1) := by decide +kernel
theorem dX12_rightOn_39 : decode cX12_rightOn 39 = .ok (.ireturn, 1) := by decide +kernel
theorem dX12_darkAll_0 : decode cX12_darkAll 0 = .ok (.iconst 0, 1) := by decide +kernel
theorem dX12_darkAll_1 : decode cX12_darkAll 1 = .ok (.istore_n 2, 1) := by decide +kernel
theorem dX12_darkAll_2 : decode cX12_darkAll 2 = .ok (.iconst 0, 1) := by decide +kernel
theorem dX12_darkAll_3 : decode cX12_darkAll 3 = .ok (.istore_n 3, 1) := by decide +kernel
theorem dX12_darkAll_4 : decode cX12_darkAll 4 = .ok (.iload_n 3, 1) := by decide +kernel
theorem dX12_darkAll_5 : decode cX12_darkAll 5 = .ok (.aload_n 0, 1) := by decide +kernel
theorem dX12_darkAll_6 : decode cX12_darkAll 6 = .ok (.getfield 7, 3) := by decide +kernel
theorem dX12_darkAll_9 : decode cX12_darkAll 9 = .ok (.iconst 0, 1) := by decide +kernel
theorem dX12_darkAll_10 : decode cX12_darkAll 10 = .ok (.iaload, 1) := by decide +kernel
theorem dX12_darkAll_11 : decode cX12_darkAll 11 = .ok (.if_icmp .ge 17, 3) := by decide +kernel
theorem dX12_darkAll_14 : decode cX12_darkAll 14 = .ok (.iload_n 2, 1) := by decide +kernel
theorem dX12_darkAll_15 : decode cX12_darkAll 15 = .ok (.aload_n 1, 1) := by decide +kernel
theorem dX12_darkAll_16 : decode cX12_darkAll 16 = .ok (.iload_n 3, 1) := by decide +kernel
theorem dX12_darkAll_17 : decode cX12_darkAll 17 = .ok (.invokestatic 123, 3) := by decide +kernel
theorem dX12_darkAll_20 : decode cX12_darkAll 20 = .ok (.iadd, 1) := by decide +kernel
theorem dX12_darkAll_21 : decode cX12_darkAll 21 = .ok (.istore_n 2, 1) := by decide +kernel
theorem dX12_darkAll_22 : decode cX12_darkAll 22 = .ok (.iinc 3 1, 3) := by decide +kernel
theorem dX12_darkAll_25 : decode cX12_darkAll 25 = .ok (.goto (-21), 3) := by decide +kernel
theorem dX12_darkAll_28 : decode cX12_darkAll 28 = .ok (.iload_n 2, 1) := by decide +kernel
theorem dX12_darkAll_29 : decode cX12_darkAll 29 = .ok (.ireturn, 1) := by decide +kernel
theorem dX12_takenBy_0 : decode cX12_takenBy 0 = .ok (.iload_n 0, 1) := by decide +kernel
theorem dX12_takenBy_1 : decode cX12_takenBy 1 = .ok (.tableswitch 82 2 5 #[31, 37, 49, 63], 31) := by decide +kernel
theorem dX12_takenBy_32 : decode cX12_takenBy 32 = .ok (.iload_n 2, 1) := by decide +kernel
theorem dX12_takenBy_33 : decode cX12_takenBy 33 = .ok (.iconst 2, 1) := by decide +kernel
theorem dX12_takenBy_34 : decode cX12_takenBy 34 = .ok (.invokestatic 126, 3) := by decide +kernel
theorem dX12_takenBy_37 : decode cX12_takenBy 37 = .ok (.ireturn, 1) := by decide +kernel
theorem dX12_takenBy_38 : decode cX12_takenBy 38 = .ok (.iload_n 2, 1) := by decide +kernel
theorem dX12_takenBy_39 : decode cX12_takenBy 39 = .ok (.ifCond .ne 7, 3) := by decide +kernel
theorem dX12_takenBy_42 : decode cX12_takenBy 42 = .ok (.iconst 0, 1) := by decide +kernel
theorem dX12_takenBy_43 : decode cX12_takenBy 43 = .ok (.goto 6, 3) := by decide +kernel
theorem dX12_takenBy_46 : decode cX12_takenBy 46 = .ok (.iload_n 2, 1) := by decide +kernel
theorem dX12_takenBy_47 : decode cX12_takenBy 47 = .ok (.iconst 1, 1) := by decide +kernel
theorem dX12_takenBy_48 : decode cX12_takenBy 48 = .ok (.iadd, 1) := by decide +kernel
theorem dX12_takenBy_49 : decode cX12_takenBy 49 = .ok (.ireturn, 1) := by decide +kernel
theorem dX12_takenBy_50 : decode cX12_takenBy 50 = .ok (.iload_n 2, 1) := by decide +kernel
theorem dX12_takenBy_51 : decode cX12_takenBy 51 = .ok (.ifCond .ne 7, 3) := by decide +kernel
theorem dX12_takenBy_54 : decode cX12_takenBy 54 = .ok (.iconst 0, 1) := by decide +kernel
theorem dX12_takenBy_55 : decode cX12_takenBy 55 = .ok (.goto 8, 3) := by decide +kernel
theorem dX12_takenBy_58 : decode cX12_takenBy 58 = .ok (.iload_n 2, 1) := by decide +kernel
theorem dX12_takenBy_59 : decode cX12_takenBy 59 = .ok (.iconst 2, 1) := by decide +kernel
theorem dX12_takenBy_60 : decode cX12_takenBy 60 = .ok (.idiv, 1) := by decide +kernel
theorem dX12_takenBy_61 : decode cX12_takenBy 61 = .ok (.iconst 1, 1) := by decide +kernel
theorem dX12_takenBy_62 : decode cX12_takenBy 62 = .ok (.iadd, 1) := by decide +kernel
theorem dX12_takenBy_63 : decode cX12_takenBy 63 = .ok (.ireturn, 1) := by decide +kernel
theorem dX12_takenBy_64 : decode cX12_takenBy 64 = .ok (.iload_n 2, 1) := by decide +kernel
theorem dX12_takenBy_65 : decode cX12_takenBy 65 = .ok (.ifCond .eq 8, 3) := by decide +kernel
theorem dX12_takenBy_68 : decode cX12_takenBy 68 = .ok (.iload_n 1, 1) := by decide +kernel
theorem dX12_takenBy_69 : decode cX12_takenBy 69 = .ok (.iconst 4, 1) := by decide +kernel
theorem dX12_takenBy_70 : decode cX12_takenBy 70 = .ok (.if_icmp .lt 7, 3) := by decide +kernel
theorem dX12_takenBy_73 : decode cX12_takenBy 73 = .ok (.iconst 0, 1) := by decide +kernel
theorem dX12_takenBy_74 : decode cX12_takenBy 74 = .ok (.goto 8, 3) := by decide +kernel
theorem dX12_takenBy_77 : decode cX12_takenBy 77 = .ok (.iload_n 2, 1) := by decide +kernel
theorem dX12_takenBy_78 : decode cX12_takenBy 78 = .ok (.iconst 2, 1) := by decide +kernel
theorem dX12_takenBy_79 : decode cX12_takenBy 79 = .ok (.idiv, 1) := by decide +kernel
theorem dX12_takenBy_80 : decode cX12_takenBy 80 = .ok (.iconst 1, 1) := by decide +kernel
theorem dX12_takenBy_81 : decode cX12_takenBy 81 = .ok (.iadd, 1) := by decide +kernel
theorem dX12_takenBy_82 : decode cX12_takenBy 82 = .ok (.ireturn, 1) := by decide +kernel
theorem dX12_takenBy_83 : decode cX12_takenBy 83 = .ok (.iload_n 2, 1) := by decide +kernel
theorem dX12_takenBy_84 : decode cX12_takenBy 84 = .ok (.ireturn, 1) := by decide +kernel
theorem dX12_takenOn_0 : decode cX12_takenOn 0 = .ok (.aload_n 1, 1) := by decide +kernel
theorem dX12_takenOn_1 : decode cX12_takenOn 1 = .ok (.iconst 0, 1) := by decide +kernel
theorem dX12_takenOn_2 : decode cX12_takenOn 2 = .ok (.iconst 3, 1) := by decide +kernel
theorem dX12_takenOn_3 : decode cX12_takenOn 3 = .ok (.iload_n 2, 1) := by decide +kernel
theorem dX12_takenOn_4 : decode cX12_takenOn 4 = .ok (.imul, 1) := by decide +kernel
theorem dX12_takenOn_5 : decode cX12_takenOn 5 = .ok (.iadd, 1) := by decide +kernel
theorem dX12_takenOn_6 : decode cX12_takenOn 6 = .ok (.iload 4, 2) := by decide +kernel
theorem dX12_takenOn_8 : decode cX12_takenOn 8 = .ok (.iadd, 1) := by decide +kernel
theorem dX12_takenOn_9 : decode cX12_takenOn 9 = .ok (.iaload, 1) := by decide +kernel
theorem dX12_takenOn_10 : decode cX12_takenOn 10 = .ok (.istore 5, 2) := by decide +kernel
theorem dX12_takenOn_12 : decode cX12_takenOn 12 = .ok (.aload_n 1, 1) := by decide +kernel
theorem dX12_takenOn_13 : decode cX12_takenOn 13 = .ok (.bipush 24, 2) := by decide +kernel
theorem dX12_takenOn_15 : decode cX12_takenOn 15 = .ok (.iload_n 2, 1) := by decide +kernel
theorem dX12_takenOn_16 : decode cX12_takenOn 16 = .ok (.iadd, 1) := by decide +kernel
theorem dX12_takenOn_17 : decode cX12_takenOn 17 = .ok (.iaload, 1) := by decide +kernel
theorem dX12_takenOn_18 : decode cX12_takenOn 18 = .ok (.ifCond .le 7, 3) := by decide +kernel
theorem dX12_takenOn_21 : decode cX12_takenOn 21 = .ok (.iconst 0, 1) := by decide +kernel
theorem dX12_takenOn_22 : decode cX12_takenOn 22 = .ok (.goto 38, 3) := by decide +kernel
theorem dX12_takenOn_25 : decode cX12_takenOn 25 = .ok (.bipush 9, 2) := by decide +kernel
theorem dX12_takenOn_27 : decode cX12_takenOn 27 = .ok (.iload 5, 2) := by decide +kernel
theorem dX12_takenOn_29 : decode cX12_takenOn 29 = .ok (.isub, 1) := by decide +kernel
theorem dX12_takenOn_30 : decode cX12_takenOn 30 = .ok (.aload_n 0, 1) := by decide +kernel
theorem dX12_takenOn_31 : decode cX12_takenOn 31 = .ok (.getfield 7, 3) := by decide +kernel
theorem dX12_takenOn_34 : decode cX12_takenOn 34 = .ok (.iconst 3, 1) := by decide +kernel
theorem dX12_takenOn_35 : decode cX12_takenOn 35 = .ok (.iload_n 2, 1) := by decide +kernel
theorem dX12_takenOn_36 : decode cX12_takenOn 36 = .ok (.iadd, 1) := by decide +kernel
theorem dX12_takenOn_37 : decode cX12_takenOn 37 = .ok (.iaload, 1) := by decide +kernel
theorem dX12_takenOn_38 : decode cX12_takenOn 38 = .ok (.iload 5, 2) := by decide +kernel
theorem dX12_takenOn_40 : decode cX12_takenOn 40 = .ok (.aload_n 0, 1) := by decide +kernel
theorem dX12_takenOn_41 : decode cX12_takenOn 41 = .ok (.getfield 7, 3) := by decide +kernel
theorem dX12_takenOn_44 : decode cX12_takenOn 44 = .ok (.bipush 11, 2) := by decide +kernel
theorem dX12_takenOn_46 : decode cX12_takenOn 46 = .ok (.iconst 3, 1) := by decide +kernel
theorem dX12_takenOn_47 : decode cX12_takenOn 47 = .ok (.iload_n 3, 1) := by decide +kernel
theorem dX12_takenOn_48 : decode cX12_takenOn 48 = .ok (.imul, 1) := by decide +kernel
theorem dX12_takenOn_49 : decode cX12_takenOn 49 = .ok (.iadd, 1) := by decide +kernel
theorem dX12_takenOn_50 : decode cX12_takenOn 50 = .ok (.iload 4, 2) := by decide +kernel
theorem dX12_takenOn_52 : decode cX12_takenOn 52 = .ok (.iadd, 1) := by decide +kernel
theorem dX12_takenOn_53 : decode cX12_takenOn 53 = .ok (.iaload, 1) := by decide +kernel
theorem dX12_takenOn_54 : decode cX12_takenOn 54 = .ok (.invokestatic 130, 3) := by decide +kernel
theorem dX12_takenOn_57 : decode cX12_takenOn 57 = .ok (.invokestatic 126, 3) := by decide +kernel
theorem dX12_takenOn_60 : decode cX12_takenOn 60 = .ok (.ireturn, 1) := by decide +kernel
theorem dX12_cracksOn_0 : decode cX12_cracksOn 0 = .ok (.iload_n 0, 1) := by decide +kernel
theorem dX12_cracksOn_1 : decode cX12_cracksOn 1 = .ok (.iconst 3, 1) := by decide +kernel
theorem dX12_cracksOn_2 : decode cX12_cracksOn 2 = .ok (.if_icmp .ne 7, 3) := by decide +kernel
theorem dX12_cracksOn_5 : decode cX12_cracksOn 5 = .ok (.iconst 2, 1) := by decide +kernel
theorem dX12_cracksOn_6 : decode cX12_cracksOn 6 = .ok (.goto 13, 3) := by decide +kernel
theorem dX12_cracksOn_9 : decode cX12_cracksOn 9 = .ok (.iload_n 0, 1) := by decide +kernel
theorem dX12_cracksOn_10 : decode cX12_cracksOn 10 = .ok (.iconst 4, 1) := by decide +kernel
theorem dX12_cracksOn_11 : decode cX12_cracksOn 11 = .ok (.if_icmp .ne 7, 3) := by decide +kernel
theorem dX12_cracksOn_14 : decode cX12_cracksOn 14 = .ok (.iconst 0, 1) := by decide +kernel
theorem dX12_cracksOn_15 : decode cX12_cracksOn 15 = .ok (.goto 4, 3) := by decide +kernel
theorem dX12_cracksOn_18 : decode cX12_cracksOn 18 = .ok (.iconst 1, 1) := by decide +kernel
theorem dX12_cracksOn_19 : decode cX12_cracksOn 19 = .ok (.ireturn, 1) := by decide +kernel
theorem dX12_bathes_0 : decode cX12_bathes 0 = .ok (.aload_n 1, 1) := by decide +kernel
theorem dX12_bathes_1 : decode cX12_bathes 1 = .ok (.bipush 24, 2) := by decide +kernel
theorem dX12_bathes_3 : decode cX12_bathes 3 = .ok (.iload_n 2, 1) := by decide +kernel
theorem dX12_bathes_4 : decode cX12_bathes 4 = .ok (.iadd, 1) := by decide +kernel
theorem dX12_bathes_5 : decode cX12_bathes 5 = .ok (.iaload, 1) := by decide +kernel
theorem dX12_bathes_6 : decode cX12_bathes 6 = .ok (.ifCond .le 41, 3) := by decide +kernel
theorem dX12_bathes_9 : decode cX12_bathes 9 = .ok (.aload_n 1, 1) := by decide +kernel
theorem dX12_bathes_10 : decode cX12_bathes 10 = .ok (.bipush 24, 2) := by decide +kernel
theorem dX12_bathes_12 : decode cX12_bathes 12 = .ok (.iload_n 2, 1) := by decide +kernel
theorem dX12_bathes_13 : decode cX12_bathes 13 = .ok (.iadd, 1) := by decide +kernel
theorem dX12_bathes_14 : decode cX12_bathes 14 = .ok (.iaload, 1) := by decide +kernel
theorem dX12_bathes_15 : decode cX12_bathes 15 = .ok (.aload_n 0, 1) := by decide +kernel
theorem dX12_bathes_16 : decode cX12_bathes 16 = .ok (.getfield 7, 3) := by decide +kernel
theorem dX12_bathes_19 : decode cX12_bathes 19 = .ok (.iconst 3, 1) := by decide +kernel
theorem dX12_bathes_20 : decode cX12_bathes 20 = .ok (.iload_n 2, 1) := by decide +kernel
theorem dX12_bathes_21 : decode cX12_bathes 21 = .ok (.iadd, 1) := by decide +kernel
theorem dX12_bathes_22 : decode cX12_bathes 22 = .ok (.iaload, 1) := by decide +kernel
theorem dX12_bathes_23 : decode cX12_bathes 23 = .ok (.invokestatic 134, 3) := by decide +kernel
theorem dX12_bathes_26 : decode cX12_bathes 26 = .ok (.isub, 1) := by decide +kernel
theorem dX12_bathes_27 : decode cX12_bathes 27 = .ok (.istore 4, 2) := by decide +kernel
theorem dX12_bathes_29 : decode cX12_bathes 29 = .ok (.aload_n 1, 1) := by decide +kernel
theorem dX12_bathes_30 : decode cX12_bathes 30 = .ok (.bipush 24, 2) := by decide +kernel
theorem dX12_bathes_32 : decode cX12_bathes 32 = .ok (.iload_n 2, 1) := by decide +kernel
theorem dX12_bathes_33 : decode cX12_bathes 33 = .ok (.iadd, 1) := by decide +kernel
theorem dX12_bathes_34 : decode cX12_bathes 34 = .ok (.iload 4, 2) := by decide +kernel
theorem dX12_bathes_36 : decode cX12_bathes 36 = .ok (.ifCond .ge 7, 3) := by decide +kernel
theorem dX12_bathes_39 : decode cX12_bathes 39 = .ok (.iconst 0, 1) := by decide +kernel
theorem dX12_bathes_40 : decode cX12_bathes 40 = .ok (.goto 5, 3) := by decide +kernel
theorem dX12_bathes_43 : decode cX12_bathes 43 = .ok (.iload 4, 2) := by decide +kernel
theorem dX12_bathes_45 : decode cX12_bathes 45 = .ok (.iastore, 1) := by decide +kernel
theorem dX12_bathes_46 : decode cX12_bathes 46 = .ok (.return_, 1) := by decide +kernel
theorem dX12_bathes_47 : decode cX12_bathes 47 = .ok (.iconst 0, 1) := by decide +kernel
theorem dX12_bathes_48 : decode cX12_bathes 48 = .ok (.istore 4, 2) := by decide +kernel
theorem dX12_bathes_50 : decode cX12_bathes 50 = .ok (.iload 4, 2) := by decide +kernel
theorem dX12_bathes_52 : decode cX12_bathes 52 = .ok (.iconst 3, 1) := by decide +kernel
theorem dX12_bathes_53 : decode cX12_bathes 53 = .ok (.if_icmp .ge 31, 3) := by decide +kernel
theorem dX12_bathes_56 : decode cX12_bathes 56 = .ok (.aload_n 1, 1) := by decide +kernel
theorem dX12_bathes_57 : decode cX12_bathes 57 = .ok (.iconst 0, 1) := by decide +kernel
theorem dX12_bathes_58 : decode cX12_bathes 58 = .ok (.iconst 3, 1) := by decide +kernel
theorem dX12_bathes_59 : decode cX12_bathes 59 = .ok (.iload_n 2, 1) := by decide +kernel
theorem dX12_bathes_60 : decode cX12_bathes 60 = .ok (.imul, 1) := by decide +kernel
theorem dX12_bathes_61 : decode cX12_bathes 61 = .ok (.iadd, 1) := by decide +kernel
theorem dX12_bathes_62 : decode cX12_bathes 62 = .ok (.iload 4, 2) := by decide +kernel
theorem dX12_bathes_64 : decode cX12_bathes 64 = .ok (.iadd, 1) := by decide +kernel
theorem dX12_bathes_65 : decode cX12_bathes 65 = .ok (.dup2, 1) := by decide +kernel
theorem dX12_bathes_66 : decode cX12_bathes 66 = .ok (.iaload, 1) := by decide +kernel
theorem dX12_bathes_67 : decode cX12_bathes 67 = .ok (.aload_n 0, 1) := by decide +kernel
theorem dX12_bathes_68 : decode cX12_bathes 68 = .ok (.aload_n 1, 1) := by decide +kernel
theorem dX12_bathes_69 : decode cX12_bathes 69 = .ok (.iload_n 2, 1) := by decide +kernel
theorem dX12_bathes_70 : decode cX12_bathes 70 = .ok (.iload_n 3, 1) := by decide +kernel
theorem dX12_bathes_71 : decode cX12_bathes 71 = .ok (.iload 4, 2) := by decide +kernel
theorem dX12_bathes_73 : decode cX12_bathes 73 = .ok (.invokevirtual 137, 3) := by decide +kernel
theorem dX12_bathes_76 : decode cX12_bathes 76 = .ok (.iadd, 1) := by decide +kernel
theorem dX12_bathes_77 : decode cX12_bathes 77 = .ok (.iastore, 1) := by decide +kernel
theorem dX12_bathes_78 : decode cX12_bathes 78 = .ok (.iinc 4 1, 3) := by decide +kernel
theorem dX12_bathes_81 : decode cX12_bathes 81 = .ok (.goto (-31), 3) := by decide +kernel
theorem dX12_bathes_84 : decode cX12_bathes 84 = .ok (.return_, 1) := by decide +kernel
theorem dX12_rinses_0 : decode cX12_rinses 0 = .ok (.iconst 0, 1) := by decide +kernel
theorem dX12_rinses_1 : decode cX12_rinses 1 = .ok (.istore_n 3, 1) := by decide +kernel
theorem dX12_rinses_2 : decode cX12_rinses 2 = .ok (.iload_n 3, 1) := by decide +kernel
theorem dX12_rinses_3 : decode cX12_rinses 3 = .ok (.iconst 3, 1) := by decide +kernel
theorem dX12_rinses_4 : decode cX12_rinses 4 = .ok (.if_icmp .ge 46, 3) := by decide +kernel
theorem dX12_rinses_7 : decode cX12_rinses 7 = .ok (.iconst 0, 1) := by decide +kernel
theorem dX12_rinses_8 : decode cX12_rinses 8 = .ok (.iconst 3, 1) := by decide +kernel
theorem dX12_rinses_9 : decode cX12_rinses 9 = .ok (.iload_n 2, 1) := by decide +kernel
theorem dX12_rinses_10 : decode cX12_rinses 10 = .ok (.imul, 1) := by decide +kernel
theorem dX12_rinses_11 : decode cX12_rinses 11 = .ok (.iadd, 1) := by decide +kernel
theorem dX12_rinses_12 : decode cX12_rinses 12 = .ok (.iload_n 3, 1) := by decide +kernel
theorem dX12_rinses_13 : decode cX12_rinses 13 = .ok (.iadd, 1) := by decide +kernel
theorem dX12_rinses_14 : decode cX12_rinses 14 = .ok (.istore 4, 2) := by decide +kernel
theorem dX12_rinses_16 : decode cX12_rinses 16 = .ok (.aload_n 1, 1) := by decide +kernel
theorem dX12_rinses_17 : decode cX12_rinses 17 = .ok (.iload 4, 2) := by decide +kernel
theorem dX12_rinses_19 : decode cX12_rinses 19 = .ok (.dup2, 1) := by decide +kernel
theorem dX12_rinses_20 : decode cX12_rinses 20 = .ok (.iaload, 1) := by decide +kernel
theorem dX12_rinses_21 : decode cX12_rinses 21 = .ok (.aload_n 1, 1) := by decide +kernel
theorem dX12_rinses_22 : decode cX12_rinses 22 = .ok (.iload 4, 2) := by decide +kernel
theorem dX12_rinses_24 : decode cX12_rinses 24 = .ok (.iaload, 1) := by decide +kernel
theorem dX12_rinses_25 : decode cX12_rinses 25 = .ok (.ifCond .le 16, 3) := by decide +kernel
theorem dX12_rinses_28 : decode cX12_rinses 28 = .ok (.aload_n 1, 1) := by decide +kernel
theorem dX12_rinses_29 : decode cX12_rinses 29 = .ok (.bipush 24, 2) := by decide +kernel
theorem dX12_rinses_31 : decode cX12_rinses 31 = .ok (.iload_n 2, 1) := by decide +kernel
theorem dX12_rinses_32 : decode cX12_rinses 32 = .ok (.iadd, 1) := by decide +kernel
theorem dX12_rinses_33 : decode cX12_rinses 33 = .ok (.iaload, 1) := by decide +kernel
theorem dX12_rinses_34 : decode cX12_rinses 34 = .ok (.ifCond .ne 7, 3) := by decide +kernel
theorem dX12_rinses_37 : decode cX12_rinses 37 = .ok (.iconst 1, 1) := by decide +kernel
theorem dX12_rinses_38 : decode cX12_rinses 38 = .ok (.goto 4, 3) := by decide +kernel
theorem dX12_rinses_41 : decode cX12_rinses 41 = .ok (.iconst 0, 1) := by decide +kernel
theorem dX12_rinses_42 : decode cX12_rinses 42 = .ok (.isub, 1) := by decide +kernel
theorem dX12_rinses_43 : decode cX12_rinses 43 = .ok (.iastore, 1) := by decide +kernel
theorem dX12_rinses_44 : decode cX12_rinses 44 = .ok (.iinc 3 1, 3) := by decide +kernel
theorem dX12_rinses_47 : decode cX12_rinses 47 = .ok (.goto (-45), 3) := by decide +kernel
theorem dX12_rinses_50 : decode cX12_rinses 50 = .ok (.return_, 1) := by decide +kernel
theorem dX12_isDoing_0 : decode cX12_isDoing 0 = .ok (.lload_n 1, 1) := by decide +kernel
theorem dX12_isDoing_1 : decode cX12_isDoing 1 = .ok (.lconst 0, 1) := by decide +kernel
theorem dX12_isDoing_2 : decode cX12_isDoing 2 = .ok (.aload_n 0, 1) := by decide +kernel
theorem dX12_isDoing_3 : decode cX12_isDoing 3 = .ok (.getfield 7, 3) := by decide +kernel
theorem dX12_isDoing_6 : decode cX12_isDoing 6 = .ok (.iconst 1, 1) := by decide +kernel
theorem dX12_isDoing_7 : decode cX12_isDoing 7 = .ok (.iaload, 1) := by decide +kernel
theorem dX12_isDoing_8 : decode cX12_isDoing 8 = .ok (.iconst 1, 1) := by decide +kernel
theorem dX12_isDoing_9 : decode cX12_isDoing 9 = .ok (.isub, 1) := by decide +kernel
theorem dX12_isDoing_10 : decode cX12_isDoing 10 = .ok (.i2l, 1) := by decide +kernel
theorem dX12_isDoing_11 : decode cX12_isDoing 11 = .ok (.invokestatic 59, 3) := by decide +kernel
theorem dX12_isDoing_14 : decode cX12_isDoing 14 = .ok (.ifCond .ne 45, 3) := by decide +kernel
theorem dX12_isDoing_17 : decode cX12_isDoing 17 = .ok (.lload_n 1, 1) := by decide +kernel
theorem dX12_isDoing_18 : decode cX12_isDoing 18 = .ok (.ldc2_w 141, 3) := by decide +kernel
theorem dX12_isDoing_21 : decode cX12_isDoing 21 = .ok (.bipush 9, 2) := by decide +kernel
theorem dX12_isDoing_23 : decode cX12_isDoing 23 = .ok (.aload_n 0, 1) := by decide +kernel
theorem dX12_isDoing_24 : decode cX12_isDoing 24 = .ok (.getfield 7, 3) := by decide +kernel
theorem dX12_isDoing_27 : decode cX12_isDoing 27 = .ok (.iconst 2, 1) := by decide +kernel
theorem dX12_isDoing_28 : decode cX12_isDoing 28 = .ok (.iaload, 1) := by decide +kernel
theorem dX12_isDoing_29 : decode cX12_isDoing 29 = .ok (.iadd, 1) := by decide +kernel
theorem dX12_isDoing_30 : decode cX12_isDoing 30 = .ok (.i2l, 1) := by decide +kernel
theorem dX12_isDoing_31 : decode cX12_isDoing 31 = .ok (.invokestatic 59, 3) := by decide +kernel
theorem dX12_isDoing_34 : decode cX12_isDoing 34 = .ok (.ifCond .ne 25, 3) := by decide +kernel
theorem dX12_isDoing_37 : decode cX12_isDoing 37 = .ok (.lload_n 1, 1) := by decide +kernel
theorem dX12_isDoing_38 : decode cX12_isDoing 38 = .ok (.ldc2_w 143, 3) := by decide +kernel
theorem dX12_isDoing_41 : decode cX12_isDoing 41 = .ok (.ldc2_w 145, 3) := by decide +kernel
theorem dX12_isDoing_44 : decode cX12_isDoing 44 = .ok (.invokestatic 59, 3) := by decide +kernel
theorem dX12_isDoing_47 : decode cX12_isDoing 47 = .ok (.ifCond .eq 16, 3) := by decide +kernel
theorem dX12_isDoing_50 : decode cX12_isDoing 50 = .ok (.aload_n 0, 1) := by decide +kernel
theorem dX12_isDoing_51 : decode cX12_isDoing 51 = .ok (.getfield 7, 3) := by decide +kernel
theorem dX12_isDoing_54 : decode cX12_isDoing 54 = .ok (.iconst 0, 1) := by decide +kernel
theorem dX12_isDoing_55 : decode cX12_isDoing 55 = .ok (.iaload, 1) := by decide +kernel
theorem dX12_isDoing_56 : decode cX12_isDoing 56 = .ok (.ifCond .le 7, 3) := by decide +kernel
theorem dX12_isDoing_59 : decode cX12_isDoing 59 = .ok (.iconst 1, 1) := by decide +kernel
theorem dX12_isDoing_60 : decode cX12_isDoing 60 = .ok (.goto 4, 3) := by decide +kernel
theorem dX12_isDoing_63 : decode cX12_isDoing 63 = .ok (.iconst 0, 1) := by decide +kernel
theorem dX12_isDoing_64 : decode cX12_isDoing 64 = .ok (.ireturn, 1) := by decide +kernel
theorem dX12_doesOn_0 : decode cX12_doesOn 0 = .ok (.iload_n 3, 1) := by decide +kernel
theorem dX12_doesOn_1 : decode cX12_doesOn 1 = .ok (.iconst 4, 1) := by decide +kernel
theorem dX12_doesOn_2 : decode cX12_doesOn 2 = .ok (.if_icmp .ge 13, 3) := by decide +kernel
theorem dX12_doesOn_5 : decode cX12_doesOn 5 = .ok (.aload_n 0, 1) := by decide +kernel
theorem dX12_doesOn_6 : decode cX12_doesOn 6 = .ok (.aload_n 1, 1) := by decide +kernel
theorem dX12_doesOn_7 : decode cX12_doesOn 7 = .ok (.iload_n 2, 1) := by decide +kernel
theorem dX12_doesOn_8 : decode cX12_doesOn 8 = .ok (.iload_n 3, 1) := by decide +kernel
theorem dX12_doesOn_9 : decode cX12_doesOn 9 = .ok (.invokevirtual 147, 3) := by decide +kernel
theorem dX12_doesOn_12 : decode cX12_doesOn 12 = .ok (.goto 69, 3) := by decide +kernel
theorem dX12_doesOn_15 : decode cX12_doesOn 15 = .ok (.iload_n 3, 1) := by decide +kernel
theorem dX12_doesOn_16 : decode cX12_doesOn 16 = .ok (.bipush 20, 2) := by decide +kernel
theorem dX12_doesOn_18 : decode cX12_doesOn 18 = .ok (.if_icmp .ge 41, 3) := by decide +kernel
theorem dX12_doesOn_21 : decode cX12_doesOn 21 = .ok (.aload_n 1, 1) := by decide +kernel
theorem dX12_doesOn_22 : decode cX12_doesOn 22 = .ok (.bipush 24, 2) := by decide +kernel
theorem dX12_doesOn_24 : decode cX12_doesOn 24 = .ok (.iload_n 2, 1) := by decide +kernel
theorem dX12_doesOn_25 : decode cX12_doesOn 25 = .ok (.iadd, 1) := by decide +kernel
theorem dX12_doesOn_26 : decode cX12_doesOn 26 = .ok (.aload_n 0, 1) := by decide +kernel
theorem dX12_doesOn_27 : decode cX12_doesOn 27 = .ok (.getfield 7, 3) := by decide +kernel
theorem dX12_doesOn_30 : decode cX12_doesOn 30 = .ok (.bipush 23, 2) := by decide +kernel
theorem dX12_doesOn_32 : decode cX12_doesOn 32 = .ok (.iload_n 3, 1) := by decide +kernel
theorem dX12_doesOn_33 : decode cX12_doesOn 33 = .ok (.iadd, 1) := by decide +kernel
theorem dX12_doesOn_34 : decode cX12_doesOn 34 = .ok (.bipush 10, 2) := by decide +kernel
theorem dX12_doesOn_36 : decode cX12_doesOn 36 = .ok (.isub, 1) := by decide +kernel
theorem dX12_doesOn_37 : decode cX12_doesOn 37 = .ok (.iaload, 1) := by decide +kernel
theorem dX12_doesOn_38 : decode cX12_doesOn 38 = .ok (.iload_n 2, 1) := by decide +kernel
theorem dX12_doesOn_39 : decode cX12_doesOn 39 = .ok (.invokestatic 151, 3) := by decide +kernel
theorem dX12_doesOn_42 : decode cX12_doesOn 42 = .ok (.ifCond .eq 7, 3) := by decide +kernel
theorem dX12_doesOn_45 : decode cX12_doesOn 45 = .ok (.iconst 3, 1) := by decide +kernel
theorem dX12_doesOn_46 : decode cX12_doesOn 46 = .ok (.goto 9, 3) := by decide +kernel
theorem dX12_doesOn_49 : decode cX12_doesOn 49 = .ok (.aload_n 1, 1) := by decide +kernel
theorem dX12_doesOn_50 : decode cX12_doesOn 50 = .ok (.bipush 24, 2) := by decide +kernel
theorem dX12_doesOn_52 : decode cX12_doesOn 52 = .ok (.iload_n 2, 1) := by decide +kernel
theorem dX12_doesOn_53 : decode cX12_doesOn 53 = .ok (.iadd, 1) := by decide +kernel
theorem dX12_doesOn_54 : decode cX12_doesOn 54 = .ok (.iaload, 1) := by decide +kernel
theorem dX12_doesOn_55 : decode cX12_doesOn 55 = .ok (.iastore, 1) := by decide +kernel
theorem dX12_doesOn_56 : decode cX12_doesOn 56 = .ok (.goto 25, 3) := by decide +kernel
theorem dX12_doesOn_59 : decode cX12_doesOn 59 = .ok (.iload_n 3, 1) := by decide +kernel
theorem dX12_doesOn_60 : decode cX12_doesOn 60 = .ok (.bipush 20, 2) := by decide +kernel
theorem dX12_doesOn_62 : decode cX12_doesOn 62 = .ok (.if_icmp .ne 13, 3) := by decide +kernel
theorem dX12_doesOn_65 : decode cX12_doesOn 65 = .ok (.aload_n 1, 1) := by decide +kernel
theorem dX12_doesOn_66 : decode cX12_doesOn 66 = .ok (.bipush 24, 2) := by decide +kernel
theorem dX12_doesOn_68 : decode cX12_doesOn 68 = .ok (.iload_n 2, 1) := by decide +kernel
theorem dX12_doesOn_69 : decode cX12_doesOn 69 = .ok (.iadd, 1) := by decide +kernel
theorem dX12_doesOn_70 : decode cX12_doesOn 70 = .ok (.iconst 0, 1) := by decide +kernel
theorem dX12_doesOn_71 : decode cX12_doesOn 71 = .ok (.iastore, 1) := by decide +kernel
theorem dX12_doesOn_72 : decode cX12_doesOn 72 = .ok (.goto 9, 3) := by decide +kernel
theorem dX12_doesOn_75 : decode cX12_doesOn 75 = .ok (.aload_n 0, 1) := by decide +kernel
theorem dX12_doesOn_76 : decode cX12_doesOn 76 = .ok (.aload_n 1, 1) := by decide +kernel
theorem dX12_doesOn_77 : decode cX12_doesOn 77 = .ok (.iload_n 2, 1) := by decide +kernel
theorem dX12_doesOn_78 : decode cX12_doesOn 78 = .ok (.invokevirtual 154, 3) := by decide +kernel
theorem dX12_doesOn_81 : decode cX12_doesOn 81 = .ok (.return_, 1) := by decide +kernel
theorem dX12_doesAll_0 : decode cX12_doesAll 0 = .ok (.iconst 0, 1) := by decide +kernel
theorem dX12_doesAll_1 : decode cX12_doesAll 1 = .ok (.istore_n 3, 1) := by decide +kernel
theorem dX12_doesAll_2 : decode cX12_doesAll 2 = .ok (.iload_n 3, 1) := by decide +kernel
theorem dX12_doesAll_3 : decode cX12_doesAll 3 = .ok (.aload_n 0, 1) := by decide +kernel
theorem dX12_doesAll_4 : decode cX12_doesAll 4 = .ok (.getfield 7, 3) := by decide +kernel
theorem dX12_doesAll_7 : decode cX12_doesAll 7 = .ok (.iconst 0, 1) := by decide +kernel
theorem dX12_doesAll_8 : decode cX12_doesAll 8 = .ok (.iaload, 1) := by decide +kernel
theorem dX12_doesAll_9 : decode cX12_doesAll 9 = .ok (.if_icmp .ge 16, 3) := by decide +kernel
theorem dX12_doesAll_12 : decode cX12_doesAll 12 = .ok (.aload_n 0, 1) := by decide +kernel
theorem dX12_doesAll_13 : decode cX12_doesAll 13 = .ok (.aload_n 1, 1) := by decide +kernel
theorem dX12_doesAll_14 : decode cX12_doesAll 14 = .ok (.iload_n 3, 1) := by decide +kernel
theorem dX12_doesAll_15 : decode cX12_doesAll 15 = .ok (.iload_n 2, 1) := by decide +kernel
theorem dX12_doesAll_16 : decode cX12_doesAll 16 = .ok (.invokevirtual 158, 3) := by decide +kernel
theorem dX12_doesAll_19 : decode cX12_doesAll 19 = .ok (.iinc 3 1, 3) := by decide +kernel
theorem dX12_doesAll_22 : decode cX12_doesAll 22 = .ok (.goto (-20), 3) := by decide +kernel
theorem dX12_doesAll_25 : decode cX12_doesAll 25 = .ok (.return_, 1) := by decide +kernel
theorem dX12_square_0 : decode cX12_square 0 = .ok (.aload_n 0, 1) := by decide +kernel
theorem dX12_square_1 : decode cX12_square 1 = .ok (.iload_n 1, 1) := by decide +kernel
theorem dX12_square_2 : decode cX12_square 2 = .ok (.invokevirtual 161, 3) := by decide +kernel
theorem dX12_square_5 : decode cX12_square 5 = .ok (.ifCond .eq 15, 3) := by decide +kernel
theorem dX12_square_8 : decode cX12_square 8 = .ok (.iload_n 2, 1) := by decide +kernel
theorem dX12_square_9 : decode cX12_square 9 = .ok (.i2l, 1) := by decide +kernel
theorem dX12_square_10 : decode cX12_square 10 = .ok (.lconst 0, 1) := by decide +kernel
theorem dX12_square_11 : decode cX12_square 11 = .ok (.ldc2_w 164, 3) := by decide +kernel
theorem dX12_square_14 : decode cX12_square 14 = .ok (.invokestatic 59, 3) := by decide +kernel
theorem dX12_square_17 : decode cX12_square 17 = .ok (.ifCond .ne 5, 3) := by decide +kernel
theorem dX12_square_20 : decode cX12_square 20 = .ok (.iconst (-1), 1) := by decide +kernel
theorem dX12_square_21 : decode cX12_square 21 = .ok (.ireturn, 1) := by decide +kernel
theorem dX12_square_22 : decode cX12_square 22 = .ok (.iload_n 2, 1) := by decide +kernel
theorem dX12_square_23 : decode cX12_square 23 = .ok (.tableswitch 101 0 5 #[37, 46, 56, 66, 75, 84], 37) := by decide +kernel
theorem dX12_square_60 : decode cX12_square 60 = .ok (.aload_n 0, 1) := by decide +kernel
theorem dX12_square_61 : decode cX12_square 61 = .ok (.getfield 7, 3) := by decide +kernel
theorem dX12_square_64 : decode cX12_square 64 = .ok (.iconst 3, 1) := by decide +kernel
theorem dX12_square_65 : decode cX12_square 65 = .ok (.iload_n 1, 1) := by decide +kernel
theorem dX12_square_66 : decode cX12_square 66 = .ok (.iadd, 1) := by decide +kernel
theorem dX12_square_67 : decode cX12_square 67 = .ok (.iaload, 1) := by decide +kernel
theorem dX12_square_68 : decode cX12_square 68 = .ok (.ireturn, 1) := by decide +kernel
theorem dX12_square_69 : decode cX12_square 69 = .ok (.aload_n 0, 1) := by decide +kernel
theorem dX12_square_70 : decode cX12_square 70 = .ok (.getfield 19, 3) := by decide +kernel
theorem dX12_square_73 : decode cX12_square 73 = .ok (.bipush 32, 2) := by decide +kernel
theorem dX12_square_75 : decode cX12_square 75 = .ok (.iload_n 1, 1) := by decide +kernel
theorem dX12_square_76 : decode cX12_square 76 = .ok (.iadd, 1) := by decide +kernel
theorem dX12_square_77 : decode cX12_square 77 = .ok (.iaload, 1) := by decide +kernel
theorem dX12_square_78 : decode cX12_square 78 = .ok (.ireturn, 1) := by decide +kernel
theorem dX12_square_79 : decode cX12_square 79 = .ok (.aload_n 0, 1) := by decide +kernel
theorem dX12_square_80 : decode cX12_square 80 = .ok (.getfield 19, 3) := by decide +kernel
theorem dX12_square_83 : decode cX12_square 83 = .ok (.bipush 24, 2) := by decide +kernel
theorem dX12_square_85 : decode cX12_square 85 = .ok (.iload_n 1, 1) := by decide +kernel
theorem dX12_square_86 : decode cX12_square 86 = .ok (.iadd, 1) := by decide +kernel
theorem dX12_square_87 : decode cX12_square 87 = .ok (.iaload, 1) := by decide +kernel
theorem dX12_square_88 : decode cX12_square 88 = .ok (.ireturn, 1) := by decide +kernel
theorem dX12_square_89 : decode cX12_square 89 = .ok (.aload_n 0, 1) := by decide +kernel
theorem dX12_square_90 : decode cX12_square 90 = .ok (.getfield 19, 3) := by decide +kernel
theorem dX12_square_93 : decode cX12_square 93 = .ok (.iload_n 1, 1) := by decide +kernel
theorem dX12_square_94 : decode cX12_square 94 = .ok (.invokestatic 115, 3) := by decide +kernel
theorem dX12_square_97 : decode cX12_square 97 = .ok (.ireturn, 1) := by decide +kernel
theorem dX12_square_98 : decode cX12_square 98 = .ok (.aload_n 0, 1) := by decide +kernel
theorem dX12_square_99 : decode cX12_square 99 = .ok (.getfield 19, 3) := by decide +kernel
theorem dX12_square_102 : decode cX12_square 102 = .ok (.iload_n 1, 1) := by decide +kernel
theorem dX12_square_103 : decode cX12_square 103 = .ok (.invokestatic 123, 3) := by decide +kernel
theorem dX12_square_106 : decode cX12_square 106 = .ok (.ireturn, 1) := by decide +kernel
theorem dX12_square_107 : decode cX12_square 107 = .ok (.aload_n 0, 1) := by decide +kernel
theorem dX12_square_108 : decode cX12_square 108 = .ok (.getfield 19, 3) := by decide +kernel
theorem dX12_square_111 : decode cX12_square 111 = .ok (.iload_n 1, 1) := by decide +kernel
theorem dX12_square_112 : decode cX12_square 112 = .ok (.invokestatic 119, 3) := by decide +kernel
theorem dX12_square_115 : decode cX12_square 115 = .ok (.ifCond .eq 7, 3) := by decide +kernel
theorem dX12_square_118 : decode cX12_square 118 = .ok (.iconst 1, 1) := by decide +kernel
theorem dX12_square_119 : decode cX12_square 119 = .ok (.goto 4, 3) := by decide +kernel
theorem dX12_square_122 : decode cX12_square 122 = .ok (.iconst 0, 1) := by decide +kernel
theorem dX12_square_123 : decode cX12_square 123 = .ok (.ireturn, 1) := by decide +kernel
theorem dX12_square_124 : decode cX12_square 124 = .ok (.aload_n 0, 1) := by decide +kernel
theorem dX12_square_125 : decode cX12_square 125 = .ok (.getfield 19, 3) := by decide +kernel
theorem dX12_square_128 : decode cX12_square 128 = .ok (.iconst 0, 1) := by decide +kernel
theorem dX12_square_129 : decode cX12_square 129 = .ok (.iconst 3, 1) := by decide +kernel
theorem dX12_square_130 : decode cX12_square 130 = .ok (.iload_n 1, 1) := by decide +kernel
theorem dX12_square_131 : decode cX12_square 131 = .ok (.imul, 1) := by decide +kernel
theorem dX12_square_132 : decode cX12_square 132 = .ok (.iadd, 1) := by decide +kernel
theorem dX12_square_133 : decode cX12_square 133 = .ok (.iload_n 2, 1) := by decide +kernel
theorem dX12_square_134 : decode cX12_square 134 = .ok (.iadd, 1) := by decide +kernel
theorem dX12_square_135 : decode cX12_square 135 = .ok (.bipush 6, 2) := by decide +kernel
theorem dX12_square_137 : decode cX12_square 137 = .ok (.isub, 1) := by decide +kernel
theorem dX12_square_138 : decode cX12_square 138 = .ok (.iaload, 1) := by decide +kernel
theorem dX12_square_139 : decode cX12_square 139 = .ok (.ireturn, 1) := by decide +kernel
theorem dX12_as_0 : decode cX12_as 0 = .ok (.aload_n 0, 1) := by decide +kernel
theorem dX12_as_1 : decode cX12_as 1 = .ok (.iload_n 1, 1) := by decide +kernel
theorem dX12_as_2 : decode cX12_as 2 = .ok (.invokevirtual 161, 3) := by decide +kernel
theorem dX12_as_5 : decode cX12_as 5 = .ok (.ifCond .eq 15, 3) := by decide +kernel
theorem dX12_as_8 : decode cX12_as 8 = .ok (.iload_n 2, 1) := by decide +kernel
theorem dX12_as_9 : decode cX12_as 9 = .ok (.i2l, 1) := by decide +kernel
theorem dX12_as_10 : decode cX12_as 10 = .ok (.lconst 0, 1) := by decide +kernel
theorem dX12_as_11 : decode cX12_as 11 = .ok (.ldc2_w 166, 3) := by decide +kernel
theorem dX12_as_14 : decode cX12_as 14 = .ok (.invokestatic 59, 3) := by decide +kernel
theorem dX12_as_17 : decode cX12_as 17 = .ok (.ifCond .ne 5, 3) := by decide +kernel
theorem dX12_as_20 : decode cX12_as 20 = .ok (.iconst (-1), 1) := by decide +kernel
theorem dX12_as_21 : decode cX12_as 21 = .ok (.ireturn, 1) := by decide +kernel
theorem dX12_as_22 : decode cX12_as 22 = .ok (.aload_n 0, 1) := by decide +kernel
theorem dX12_as_23 : decode cX12_as 23 = .ok (.getfield 7, 3) := by decide +kernel
theorem dX12_as_26 : decode cX12_as 26 = .ok (.iconst 3, 1) := by decide +kernel
theorem dX12_as_27 : decode cX12_as 27 = .ok (.iload_n 1, 1) := by decide +kernel
theorem dX12_as_28 : decode cX12_as 28 = .ok (.iadd, 1) := by decide +kernel
theorem dX12_as_29 : decode cX12_as 29 = .ok (.iaload, 1) := by decide +kernel
theorem dX12_as_30 : decode cX12_as 30 = .ok (.istore_n 3, 1) := by decide +kernel
theorem dX12_as_31 : decode cX12_as 31 = .ok (.iload_n 2, 1) := by decide +kernel
theorem dX12_as_32 : decode cX12_as 32 = .ok (.ifCond .eq 37, 3) := by decide +kernel
theorem dX12_as_35 : decode cX12_as 35 = .ok (.iload_n 2, 1) := by decide +kernel
theorem dX12_as_36 : decode cX12_as 36 = .ok (.iload_n 3, 1) := by decide +kernel
theorem dX12_as_37 : decode cX12_as 37 = .ok (.if_icmp .eq 32, 3) := by decide +kernel
theorem dX12_as_40 : decode cX12_as 40 = .ok (.iload_n 2, 1) := by decide +kernel
theorem dX12_as_41 : decode cX12_as 41 = .ok (.iconst 1, 1) := by decide +kernel
theorem dX12_as_42 : decode cX12_as 42 = .ok (.if_icmp .ne 17, 3) := by decide +kernel
theorem dX12_as_45 : decode cX12_as 45 = .ok (.iload_n 3, 1) := by decide +kernel
theorem dX12_as_46 : decode cX12_as 46 = .ok (.i2l, 1) := by decide +kernel
theorem dX12_as_47 : decode cX12_as 47 = .ok (.ldc2_w 168, 3) := by decide +kernel
theorem dX12_as_50 : decode cX12_as 50 = .ok (.ldc2_w 170, 3) := by decide +kernel
theorem dX12_as_53 : decode cX12_as 53 = .ok (.invokestatic 59, 3) := by decide +kernel
theorem dX12_as_56 : decode cX12_as 56 = .ok (.ifCond .ne 13, 3) := by decide +kernel
theorem dX12_as_59 : decode cX12_as 59 = .ok (.iload_n 2, 1) := by decide +kernel
theorem dX12_as_60 : decode cX12_as 60 = .ok (.iconst 4, 1) := by decide +kernel
theorem dX12_as_61 : decode cX12_as 61 = .ok (.if_icmp .ne 12, 3) := by decide +kernel
theorem dX12_as_64 : decode cX12_as 64 = .ok (.iload_n 3, 1) := by decide +kernel
theorem dX12_as_65 : decode cX12_as 65 = .ok (.iconst 5, 1) := by decide +kernel
theorem dX12_as_66 : decode cX12_as 66 = .ok (.if_icmp .ne 7, 3) := by decide +kernel
theorem dX12_as_69 : decode cX12_as 69 = .ok (.iconst 1, 1) := by decide +kernel
theorem dX12_as_70 : decode cX12_as 70 = .ok (.goto 4, 3) := by decide +kernel
theorem dX12_as_73 : decode cX12_as 73 = .ok (.iconst 0, 1) := by decide +kernel
theorem dX12_as_74 : decode cX12_as 74 = .ok (.istore 4, 2) := by decide +kernel
theorem dX12_as_76 : decode cX12_as 76 = .ok (.iload 4, 2) := by decide +kernel
theorem dX12_as_78 : decode cX12_as 78 = .ok (.ifCond .eq 7, 3) := by decide +kernel
theorem dX12_as_81 : decode cX12_as 81 = .ok (.iload_n 1, 1) := by decide +kernel
theorem dX12_as_82 : decode cX12_as 82 = .ok (.goto 5, 3) := by decide +kernel
theorem dX12_as_85 : decode cX12_as 85 = .ok (.bipush (-12), 2) := by decide +kernel
theorem dX12_as_87 : decode cX12_as 87 = .ok (.ireturn, 1) := by decide +kernel
theorem dX12_dye_0 : decode cX12_dye 0 = .ok (.aload_n 0, 1) := by decide +kernel
theorem dX12_dye_1 : decode cX12_dye 1 = .ok (.iload_n 1, 1) := by decide +kernel
theorem dX12_dye_2 : decode cX12_dye 2 = .ok (.invokevirtual 172, 3) := by decide +kernel
theorem dX12_dye_5 : decode cX12_dye 5 = .ok (.ifCond .eq 31, 3) := by decide +kernel
theorem dX12_dye_8 : decode cX12_dye 8 = .ok (.iload_n 2, 1) := by decide +kernel
theorem dX12_dye_9 : decode cX12_dye 9 = .ok (.i2l, 1) := by decide +kernel
theorem dX12_dye_10 : decode cX12_dye 10 = .ok (.lconst 0, 1) := by decide +kernel
theorem dX12_dye_11 : decode cX12_dye 11 = .ok (.ldc2_w 168, 3) := by decide +kernel
theorem dX12_dye_14 : decode cX12_dye 14 = .ok (.invokestatic 59, 3) := by decide +kernel
theorem dX12_dye_17 : decode cX12_dye 17 = .ok (.ifCond .eq 19, 3) := by decide +kernel
theorem dX12_dye_20 : decode cX12_dye 20 = .ok (.aload_n 0, 1) := by decide +kernel
theorem dX12_dye_21 : decode cX12_dye 21 = .ok (.getfield 7, 3) := by decide +kernel
theorem dX12_dye_24 : decode cX12_dye 24 = .ok (.bipush 11, 2) := by decide +kernel
theorem dX12_dye_26 : decode cX12_dye 26 = .ok (.iconst 3, 1) := by decide +kernel
theorem dX12_dye_27 : decode cX12_dye 27 = .ok (.iload_n 1, 1) := by decide +kernel
theorem dX12_dye_28 : decode cX12_dye 28 = .ok (.imul, 1) := by decide +kernel
theorem dX12_dye_29 : decode cX12_dye 29 = .ok (.iadd, 1) := by decide +kernel
theorem dX12_dye_30 : decode cX12_dye 30 = .ok (.iload_n 2, 1) := by decide +kernel
theorem dX12_dye_31 : decode cX12_dye 31 = .ok (.iadd, 1) := by decide +kernel
theorem dX12_dye_32 : decode cX12_dye 32 = .ok (.iaload, 1) := by decide +kernel
theorem dX12_dye_33 : decode cX12_dye 33 = .ok (.goto 4, 3) := by decide +kernel
theorem dX12_dye_36 : decode cX12_dye 36 = .ok (.iconst (-1), 1) := by decide +kernel
theorem dX12_dye_37 : decode cX12_dye 37 = .ok (.ireturn, 1) := by decide +kernel
theorem dX12_stencil_0 : decode cX12_stencil 0 = .ok (.iload_n 1, 1) := by decide +kernel
theorem dX12_stencil_1 : decode cX12_stencil 1 = .ok (.i2l, 1) := by decide +kernel
theorem dX12_stencil_2 : decode cX12_stencil 2 = .ok (.lconst 0, 1) := by decide +kernel
theorem dX12_stencil_3 : decode cX12_stencil 3 = .ok (.aload_n 0, 1) := by decide +kernel
theorem dX12_stencil_4 : decode cX12_stencil 4 = .ok (.getfield 7, 3) := by decide +kernel
theorem dX12_stencil_7 : decode cX12_stencil 7 = .ok (.iconst 2, 1) := by decide +kernel
theorem dX12_stencil_8 : decode cX12_stencil 8 = .ok (.iaload, 1) := by decide +kernel
theorem dX12_stencil_9 : decode cX12_stencil 9 = .ok (.iconst 1, 1) := by decide +kernel
theorem dX12_stencil_10 : decode cX12_stencil 10 = .ok (.isub, 1) := by decide +kernel
theorem dX12_stencil_11 : decode cX12_stencil 11 = .ok (.i2l, 1) := by decide +kernel
theorem dX12_stencil_12 : decode cX12_stencil 12 = .ok (.invokestatic 59, 3) := by decide +kernel
theorem dX12_stencil_15 : decode cX12_stencil 15 = .ok (.ifCond .eq 15, 3) := by decide +kernel
theorem dX12_stencil_18 : decode cX12_stencil 18 = .ok (.aload_n 0, 1) := by decide +kernel
theorem dX12_stencil_19 : decode cX12_stencil 19 = .ok (.getfield 7, 3) := by decide +kernel
theorem dX12_stencil_22 : decode cX12_stencil 22 = .ok (.bipush 23, 2) := by decide +kernel
theorem dX12_stencil_24 : decode cX12_stencil 24 = .ok (.iload_n 1, 1) := by decide +kernel
theorem dX12_stencil_25 : decode cX12_stencil 25 = .ok (.iadd, 1) := by decide +kernel
theorem dX12_stencil_26 : decode cX12_stencil 26 = .ok (.iaload, 1) := by decide +kernel
theorem dX12_stencil_27 : decode cX12_stencil 27 = .ok (.goto 4, 3) := by decide +kernel
theorem dX12_stencil_30 : decode cX12_stencil 30 = .ok (.iconst (-1), 1) := by decide +kernel
theorem dX12_stencil_31 : decode cX12_stencil 31 = .ok (.ireturn, 1) := by decide +kernel
theorem dX12_takes_0 : decode cX12_takes 0 = .ok (.aload_n 0, 1) := by decide +kernel
theorem dX12_takes_1 : decode cX12_takes 1 = .ok (.iload_n 1, 1) := by decide +kernel
theorem dX12_takes_2 : decode cX12_takes 2 = .ok (.invokevirtual 161, 3) := by decide +kernel
theorem dX12_takes_5 : decode cX12_takes 5 = .ok (.ifCond .eq 37, 3) := by decide +kernel
theorem dX12_takes_8 : decode cX12_takes 8 = .ok (.aload_n 0, 1) := by decide +kernel
theorem dX12_takes_9 : decode cX12_takes 9 = .ok (.iload_n 2, 1) := by decide +kernel
theorem dX12_takes_10 : decode cX12_takes 10 = .ok (.invokevirtual 172, 3) := by decide +kernel
theorem dX12_takes_13 : decode cX12_takes 13 = .ok (.ifCond .eq 29, 3) := by decide +kernel
theorem dX12_takes_16 : decode cX12_takes 16 = .ok (.iload_n 3, 1) := by decide +kernel
theorem dX12_takes_17 : decode cX12_takes 17 = .ok (.i2l, 1) := by decide +kernel
theorem dX12_takes_18 : decode cX12_takes 18 = .ok (.lconst 0, 1) := by decide +kernel
theorem dX12_takes_19 : decode cX12_takes 19 = .ok (.ldc2_w 168, 3) := by decide +kernel
theorem dX12_takes_22 : decode cX12_takes 22 = .ok (.invokestatic 59, 3) := by decide +kernel
theorem dX12_takes_25 : decode cX12_takes 25 = .ok (.ifCond .eq 17, 3) := by decide +kernel
theorem dX12_takes_28 : decode cX12_takes 28 = .ok (.aload_n 0, 1) := by decide +kernel
theorem dX12_takes_29 : decode cX12_takes 29 = .ok (.aload_n 0, 1) := by decide +kernel
theorem dX12_takes_30 : decode cX12_takes 30 = .ok (.getfield 19, 3) := by decide +kernel
theorem dX12_takes_33 : decode cX12_takes 33 = .ok (.iload_n 1, 1) := by decide +kernel
theorem dX12_takes_34 : decode cX12_takes 34 = .ok (.iload_n 2, 1) := by decide +kernel
theorem dX12_takes_35 : decode cX12_takes 35 = .ok (.iload_n 3, 1) := by decide +kernel
theorem dX12_takes_36 : decode cX12_takes 36 = .ok (.invokevirtual 137, 3) := by decide +kernel
theorem dX12_takes_39 : decode cX12_takes 39 = .ok (.goto 4, 3) := by decide +kernel
theorem dX12_takes_42 : decode cX12_takes 42 = .ok (.iconst (-1), 1) := by decide +kernel
theorem dX12_takes_43 : decode cX12_takes 43 = .ok (.ireturn, 1) := by decide +kernel
theorem dX12_does_0 : decode cX12_does 0 = .ok (.aload_n 0, 1) := by decide +kernel
theorem dX12_does_1 : decode cX12_does 1 = .ok (.iload_n 1, 1) := by decide +kernel
theorem dX12_does_2 : decode cX12_does 2 = .ok (.i2l, 1) := by decide +kernel
theorem dX12_does_3 : decode cX12_does 3 = .ok (.invokevirtual 175, 3) := by decide +kernel
theorem dX12_does_6 : decode cX12_does 6 = .ok (.ifCond .ne 5, 3) := by decide +kernel
theorem dX12_does_9 : decode cX12_does 9 = .ok (.iconst (-1), 1) := by decide +kernel
theorem dX12_does_10 : decode cX12_does 10 = .ok (.ireturn, 1) := by decide +kernel
theorem dX12_does_11 : decode cX12_does 11 = .ok (.aload_n 0, 1) := by decide +kernel
theorem dX12_does_12 : decode cX12_does 12 = .ok (.getfield 109, 3) := by decide +kernel
theorem dX12_does_15 : decode cX12_does 15 = .ok (.sipush 9999, 3) := by decide +kernel
theorem dX12_does_18 : decode cX12_does 18 = .ok (.if_icmp .ne 6, 3) := by decide +kernel
theorem dX12_does_21 : decode cX12_does 21 = .ok (.bipush (-3), 2) := by decide +kernel
theorem dX12_does_23 : decode cX12_does 23 = .ok (.ireturn, 1) := by decide +kernel
theorem dX12_does_24 : decode cX12_does 24 = .ok (.aload_n 0, 1) := by decide +kernel
theorem dX12_does_25 : decode cX12_does 25 = .ok (.getfield 112, 3) := by decide +kernel
theorem dX12_does_28 : decode cX12_does 28 = .ok (.bipush 24, 2) := by decide +kernel
theorem dX12_does_30 : decode cX12_does 30 = .ok (.if_icmp .ne 43, 3) := by decide +kernel
theorem dX12_does_33 : decode cX12_does 33 = .ok (.iconst 0, 1) := by decide +kernel
theorem dX12_does_34 : decode cX12_does 34 = .ok (.istore_n 2, 1) := by decide +kernel
theorem dX12_does_35 : decode cX12_does 35 = .ok (.iload_n 2, 1) := by decide +kernel
theorem dX12_does_36 : decode cX12_does 36 = .ok (.sipush 736, 3) := by decide +kernel
theorem dX12_does_39 : decode cX12_does 39 = .ok (.if_icmp .ge 24, 3) := by decide +kernel
theorem dX12_does_42 : decode cX12_does 42 = .ok (.aload_n 0, 1) := by decide +kernel
theorem dX12_does_43 : decode cX12_does 43 = .ok (.getfield 25, 3) := by decide +kernel
theorem dX12_does_46 : decode cX12_does 46 = .ok (.iload_n 2, 1) := by decide +kernel
theorem dX12_does_47 : decode cX12_does 47 = .ok (.aload_n 0, 1) := by decide +kernel
theorem dX12_does_48 : decode cX12_does 48 = .ok (.getfield 25, 3) := by decide +kernel
theorem dX12_does_51 : decode cX12_does 51 = .ok (.iload_n 2, 1) := by decide +kernel
theorem dX12_does_52 : decode cX12_does 52 = .ok (.bipush 32, 2) := by decide +kernel
theorem dX12_does_54 : decode cX12_does 54 = .ok (.iadd, 1) := by decide +kernel
theorem dX12_does_55 : decode cX12_does 55 = .ok (.iaload, 1) := by decide +kernel
theorem dX12_does_56 : decode cX12_does 56 = .ok (.iastore, 1) := by decide +kernel
theorem dX12_does_57 : decode cX12_does 57 = .ok (.iinc 2 1, 3) := by decide +kernel
theorem dX12_does_60 : decode cX12_does 60 = .ok (.goto (-25), 3) := by decide +kernel
theorem dX12_does_63 : decode cX12_does 63 = .ok (.aload_n 0, 1) := by decide +kernel
theorem dX12_does_64 : decode cX12_does 64 = .ok (.dup, 1) := by decide +kernel
theorem dX12_does_65 : decode cX12_does 65 = .ok (.getfield 112, 3) := by decide +kernel
theorem dX12_does_68 : decode cX12_does 68 = .ok (.iconst 1, 1) := by decide +kernel
theorem dX12_does_69 : decode cX12_does 69 = .ok (.isub, 1) := by decide +kernel
theorem dX12_does_70 : decode cX12_does 70 = .ok (.putfield 112, 3) := by decide +kernel
theorem dX12_does_73 : decode cX12_does 73 = .ok (.aload_n 0, 1) := by decide +kernel
theorem dX12_does_74 : decode cX12_does 74 = .ok (.getfield 19, 3) := by decide +kernel
theorem dX12_does_77 : decode cX12_does 77 = .ok (.iconst 0, 1) := by decide +kernel
theorem dX12_does_78 : decode cX12_does 78 = .ok (.aload_n 0, 1) := by decide +kernel
theorem dX12_does_79 : decode cX12_does 79 = .ok (.getfield 25, 3) := by decide +kernel
theorem dX12_does_82 : decode cX12_does 82 = .ok (.bipush 32, 2) := by decide +kernel
theorem dX12_does_84 : decode cX12_does 84 = .ok (.aload_n 0, 1) := by decide +kernel
theorem dX12_does_85 : decode cX12_does 85 = .ok (.getfield 112, 3) := by decide +kernel
theorem dX12_does_88 : decode cX12_does 88 = .ok (.imul, 1) := by decide +kernel
theorem dX12_does_89 : decode cX12_does 89 = .ok (.bipush 32, 2) := by decide +kernel
theorem dX12_does_91 : decode cX12_does 91 = .ok (.invokestatic 105, 3) := by decide +kernel
theorem dX12_does_94 : decode cX12_does 94 = .ok (.aload_n 0, 1) := by decide +kernel
theorem dX12_does_95 : decode cX12_does 95 = .ok (.dup, 1) := by decide +kernel
theorem dX12_does_96 : decode cX12_does 96 = .ok (.getfield 112, 3) := by decide +kernel
theorem dX12_does_99 : decode cX12_does 99 = .ok (.iconst 1, 1) := by decide +kernel
theorem dX12_does_100 : decode cX12_does 100 = .ok (.iadd, 1) := by decide +kernel
theorem dX12_does_101 : decode cX12_does 101 = .ok (.putfield 112, 3) := by decide +kernel
theorem dX12_does_104 : decode cX12_does 104 = .ok (.aload_n 0, 1) := by decide +kernel
theorem dX12_does_105 : decode cX12_does 105 = .ok (.dup, 1) := by decide +kernel
theorem dX12_does_106 : decode cX12_does 106 = .ok (.getfield 109, 3) := by decide +kernel
theorem dX12_does_109 : decode cX12_does 109 = .ok (.iconst 1, 1) := by decide +kernel
theorem dX12_does_110 : decode cX12_does 110 = .ok (.iadd, 1) := by decide +kernel
theorem dX12_does_111 : decode cX12_does 111 = .ok (.putfield 109, 3) := by decide +kernel
theorem dX12_does_114 : decode cX12_does 114 = .ok (.aload_n 0, 1) := by decide +kernel
theorem dX12_does_115 : decode cX12_does 115 = .ok (.aload_n 0, 1) := by decide +kernel
theorem dX12_does_116 : decode cX12_does 116 = .ok (.getfield 19, 3) := by decide +kernel
theorem dX12_does_119 : decode cX12_does 119 = .ok (.iload_n 1, 1) := by decide +kernel
theorem dX12_does_120 : decode cX12_does 120 = .ok (.invokevirtual 179, 3) := by decide +kernel
theorem dX12_does_123 : decode cX12_does 123 = .ok (.aload_n 0, 1) := by decide +kernel
theorem dX12_does_124 : decode cX12_does 124 = .ok (.aload_n 0, 1) := by decide +kernel
theorem dX12_does_125 : decode cX12_does 125 = .ok (.getfield 19, 3) := by decide +kernel
theorem dX12_does_128 : decode cX12_does 128 = .ok (.invokevirtual 182, 3) := by decide +kernel
theorem dX12_does_131 : decode cX12_does 131 = .ok (.ireturn, 1) := by decide +kernel
theorem dX12_undo_0 : decode cX12_undo 0 = .ok (.aload_n 0, 1) := by decide +kernel
theorem dX12_undo_1 : decode cX12_undo 1 = .ok (.getfield 112, 3) := by decide +kernel
theorem dX12_undo_4 : decode cX12_undo 4 = .ok (.ifCond .ne 6, 3) := by decide +kernel
theorem dX12_undo_7 : decode cX12_undo 7 = .ok (.bipush (-4), 2) := by decide +kernel
theorem dX12_undo_9 : decode cX12_undo 9 = .ok (.ireturn, 1) := by decide +kernel
theorem dX12_undo_10 : decode cX12_undo 10 = .ok (.aload_n 0, 1) := by decide +kernel
theorem dX12_undo_11 : decode cX12_undo 11 = .ok (.dup, 1) := by decide +kernel
theorem dX12_undo_12 : decode cX12_undo 12 = .ok (.getfield 112, 3) := by decide +kernel
theorem dX12_undo_15 : decode cX12_undo 15 = .ok (.iconst 1, 1) := by decide +kernel
theorem dX12_undo_16 : decode cX12_undo 16 = .ok (.isub, 1) := by decide +kernel
theorem dX12_undo_17 : decode cX12_undo 17 = .ok (.putfield 112, 3) := by decide +kernel
theorem dX12_undo_20 : decode cX12_undo 20 = .ok (.aload_n 0, 1) := by decide +kernel
theorem dX12_undo_21 : decode cX12_undo 21 = .ok (.dup, 1) := by decide +kernel
theorem dX12_undo_22 : decode cX12_undo 22 = .ok (.getfield 109, 3) := by decide +kernel
theorem dX12_undo_25 : decode cX12_undo 25 = .ok (.iconst 1, 1) := by decide +kernel
theorem dX12_undo_26 : decode cX12_undo 26 = .ok (.isub, 1) := by decide +kernel
theorem dX12_undo_27 : decode cX12_undo 27 = .ok (.putfield 109, 3) := by decide +kernel
theorem dX12_undo_30 : decode cX12_undo 30 = .ok (.aload_n 0, 1) := by decide +kernel
theorem dX12_undo_31 : decode cX12_undo 31 = .ok (.getfield 25, 3) := by decide +kernel
theorem dX12_undo_34 : decode cX12_undo 34 = .ok (.bipush 32, 2) := by decide +kernel
theorem dX12_undo_36 : decode cX12_undo 36 = .ok (.aload_n 0, 1) := by decide +kernel
theorem dX12_undo_37 : decode cX12_undo 37 = .ok (.getfield 112, 3) := by decide +kernel
theorem dX12_undo_40 : decode cX12_undo 40 = .ok (.imul, 1) := by decide +kernel
theorem dX12_undo_41 : decode cX12_undo 41 = .ok (.aload_n 0, 1) := by decide +kernel
theorem dX12_undo_42 : decode cX12_undo 42 = .ok (.getfield 19, 3) := by decide +kernel
theorem dX12_undo_45 : decode cX12_undo 45 = .ok (.iconst 0, 1) := by decide +kernel
theorem dX12_undo_46 : decode cX12_undo 46 = .ok (.bipush 32, 2) := by decide +kernel
theorem dX12_undo_48 : decode cX12_undo 48 = .ok (.invokestatic 105, 3) := by decide +kernel
theorem dX12_undo_51 : decode cX12_undo 51 = .ok (.aload_n 0, 1) := by decide +kernel
theorem dX12_undo_52 : decode cX12_undo 52 = .ok (.getfield 112, 3) := by decide +kernel
theorem dX12_undo_55 : decode cX12_undo 55 = .ok (.ireturn, 1) := by decide +kernel
theorem dX12_wish_0 : decode cX12_wish 0 = .ok (.aload_n 0, 1) := by decide +kernel
theorem dX12_wish_1 : decode cX12_wish 1 = .ok (.iload_n 1, 1) := by decide +kernel
theorem dX12_wish_2 : decode cX12_wish 2 = .ok (.invokevirtual 161, 3) := by decide +kernel
theorem dX12_wish_5 : decode cX12_wish 5 = .ok (.ifCond .eq 15, 3) := by decide +kernel
theorem dX12_wish_8 : decode cX12_wish 8 = .ok (.iload_n 2, 1) := by decide +kernel
theorem dX12_wish_9 : decode cX12_wish 9 = .ok (.i2l, 1) := by decide +kernel
theorem dX12_wish_10 : decode cX12_wish 10 = .ok (.lconst 0, 1) := by decide +kernel
theorem dX12_wish_11 : decode cX12_wish 11 = .ok (.ldc2_w 186, 3) := by decide +kernel
theorem dX12_wish_14 : decode cX12_wish 14 = .ok (.invokestatic 59, 3) := by decide +kernel
theorem dX12_wish_17 : decode cX12_wish 17 = .ok (.ifCond .ne 5, 3) := by decide +kernel
theorem dX12_wish_20 : decode cX12_wish 20 = .ok (.iconst (-1), 1) := by decide +kernel
theorem dX12_wish_21 : decode cX12_wish 21 = .ok (.ireturn, 1) := by decide +kernel
theorem dX12_wish_22 : decode cX12_wish 22 = .ok (.aload_n 0, 1) := by decide +kernel
theorem dX12_wish_23 : decode cX12_wish 23 = .ok (.getfield 19, 3) := by decide +kernel
theorem dX12_wish_26 : decode cX12_wish 26 = .ok (.bipush 32, 2) := by decide +kernel
theorem dX12_wish_28 : decode cX12_wish 28 = .ok (.iload_n 1, 1) := by decide +kernel
theorem dX12_wish_29 : decode cX12_wish 29 = .ok (.iadd, 1) := by decide +kernel
theorem dX12_wish_30 : decode cX12_wish 30 = .ok (.iaload, 1) := by decide +kernel
theorem dX12_wish_31 : decode cX12_wish 31 = .ok (.istore_n 3, 1) := by decide +kernel
theorem dX12_wish_32 : decode cX12_wish 32 = .ok (.aload_n 0, 1) := by decide +kernel
theorem dX12_wish_33 : decode cX12_wish 33 = .ok (.getfield 19, 3) := by decide +kernel
theorem dX12_wish_36 : decode cX12_wish 36 = .ok (.bipush 32, 2) := by decide +kernel
theorem dX12_wish_38 : decode cX12_wish 38 = .ok (.iload_n 1, 1) := by decide +kernel
theorem dX12_wish_39 : decode cX12_wish 39 = .ok (.iadd, 1) := by decide +kernel
theorem dX12_wish_40 : decode cX12_wish 40 = .ok (.iload_n 2, 1) := by decide +kernel
theorem dX12_wish_41 : decode cX12_wish 41 = .ok (.iastore, 1) := by decide +kernel
theorem dX12_wish_42 : decode cX12_wish 42 = .ok (.iload_n 3, 1) := by decide +kernel
theorem dX12_wish_43 : decode cX12_wish 43 = .ok (.ireturn, 1) := by decide +kernel
theorem dX12_image_0 : decode cX12_image 0 = .ok (.iload_n 1, 1) := by decide +kernel
theorem dX12_image_1 : decode cX12_image 1 = .ok (.i2l, 1) := by decide +kernel
theorem dX12_image_2 : decode cX12_image 2 = .ok (.lconst 0, 1) := by decide +kernel
theorem dX12_image_3 : decode cX12_image 3 = .ok (.lconst 1, 1) := by decide +kernel
theorem dX12_image_4 : decode cX12_image 4 = .ok (.invokestatic 59, 3) := by decide +kernel
theorem dX12_image_7 : decode cX12_image 7 = .ok (.ifCond .ne 5, 3) := by decide +kernel
theorem dX12_image_10 : decode cX12_image 10 = .ok (.iconst (-1), 1) := by decide +kernel
theorem dX12_image_11 : decode cX12_image 11 = .ok (.ireturn, 1) := by decide +kernel
theorem dX12_image_12 : decode cX12_image 12 = .ok (.aload_n 0, 1) := by decide +kernel
theorem dX12_image_13 : decode cX12_image 13 = .ok (.getfield 7, 3) := by decide +kernel
theorem dX12_image_16 : decode cX12_image 16 = .ok (.iconst 0, 1) := by decide +kernel
theorem dX12_image_17 : decode cX12_image 17 = .ok (.iaload, 1) := by decide +kernel
theorem dX12_image_18 : decode cX12_image 18 = .ok (.ifCond .ne 6, 3) := by decide +kernel
theorem dX12_image_21 : decode cX12_image 21 = .ok (.bipush (-2), 2) := by decide +kernel
theorem dX12_image_23 : decode cX12_image 23 = .ok (.ireturn, 1) := by decide +kernel
theorem dX12_image_24 : decode cX12_image 24 = .ok (.aload_n 0, 1) := by decide +kernel
theorem dX12_image_25 : decode cX12_image 25 = .ok (.getfield 7, 3) := by decide +kernel
theorem dX12_image_28 : decode cX12_image 28 = .ok (.iconst 0, 1) := by decide +kernel
theorem dX12_image_29 : decode cX12_image 29 = .ok (.aload_n 0, 1) := by decide +kernel
theorem dX12_image_30 : decode cX12_image 30 = .ok (.getfield 28, 3) := by decide +kernel
theorem dX12_image_33 : decode cX12_image 33 = .ok (.bipush 67, 2) := by decide +kernel
theorem dX12_image_35 : decode cX12_image 35 = .ok (.iload_n 1, 1) := by decide +kernel
theorem dX12_image_36 : decode cX12_image 36 = .ok (.imul, 1) := by decide +kernel
theorem dX12_image_37 : decode cX12_image 37 = .ok (.bipush 26, 2) := by decide +kernel
theorem dX12_image_39 : decode cX12_image 39 = .ok (.invokestatic 105, 3) := by decide +kernel
theorem dX12_image_42 : decode cX12_image 42 = .ok (.aload_n 0, 1) := by decide +kernel
theorem dX12_image_43 : decode cX12_image 43 = .ok (.getfield 19, 3) := by decide +kernel
theorem dX12_image_46 : decode cX12_image 46 = .ok (.iconst 0, 1) := by decide +kernel
theorem dX12_image_47 : decode cX12_image 47 = .ok (.aload_n 0, 1) := by decide +kernel
theorem dX12_image_48 : decode cX12_image 48 = .ok (.getfield 28, 3) := by decide +kernel
theorem dX12_image_51 : decode cX12_image 51 = .ok (.bipush 67, 2) := by decide +kernel
theorem dX12_image_53 : decode cX12_image 53 = .ok (.iload_n 1, 1) := by decide +kernel
theorem dX12_image_54 : decode cX12_image 54 = .ok (.imul, 1) := by decide +kernel
theorem dX12_image_55 : decode cX12_image 55 = .ok (.bipush 26, 2) := by decide +kernel
theorem dX12_image_57 : decode cX12_image 57 = .ok (.iadd, 1) := by decide +kernel
theorem dX12_image_58 : decode cX12_image 58 = .ok (.bipush 40, 2) := by decide +kernel
theorem dX12_image_60 : decode cX12_image 60 = .ok (.invokestatic 105, 3) := by decide +kernel
theorem dX12_image_63 : decode cX12_image 63 = .ok (.aload_n 0, 1) := by decide +kernel
theorem dX12_image_64 : decode cX12_image 64 = .ok (.getfield 28, 3) := by decide +kernel
theorem dX12_image_67 : decode cX12_image 67 = .ok (.bipush 67, 2) := by decide +kernel
theorem dX12_image_69 : decode cX12_image 69 = .ok (.iload_n 1, 1) := by decide +kernel
theorem dX12_image_70 : decode cX12_image 70 = .ok (.imul, 1) := by decide +kernel
theorem dX12_image_71 : decode cX12_image 71 = .ok (.bipush 26, 2) := by decide +kernel
theorem dX12_image_73 : decode cX12_image 73 = .ok (.iadd, 1) := by decide +kernel
theorem dX12_image_74 : decode cX12_image 74 = .ok (.bipush 40, 2) := by decide +kernel
theorem dX12_image_76 : decode cX12_image 76 = .ok (.iadd, 1) := by decide +kernel
theorem dX12_image_77 : decode cX12_image 77 = .ok (.aload_n 0, 1) := by decide +kernel
theorem dX12_image_78 : decode cX12_image 78 = .ok (.getfield 109, 3) := by decide +kernel
theorem dX12_image_81 : decode cX12_image 81 = .ok (.iastore, 1) := by decide +kernel
theorem dX12_image_82 : decode cX12_image 82 = .ok (.aload_n 0, 1) := by decide +kernel
theorem dX12_image_83 : decode cX12_image 83 = .ok (.getfield 31, 3) := by decide +kernel
theorem dX12_image_86 : decode cX12_image 86 = .ok (.iload_n 1, 1) := by decide +kernel
theorem dX12_image_87 : decode cX12_image 87 = .ok (.iconst 1, 1) := by decide +kernel
theorem dX12_image_88 : decode cX12_image 88 = .ok (.bastore, 1) := by decide +kernel
theorem dX12_image_89 : decode cX12_image 89 = .ok (.aload_n 0, 1) := by decide +kernel
theorem dX12_image_90 : decode cX12_image 90 = .ok (.getfield 109, 3) := by decide +kernel
theorem dX12_image_93 : decode cX12_image 93 = .ok (.ireturn, 1) := by decide +kernel
theorem dX12_restore_0 : decode cX12_restore 0 = .ok (.iload_n 1, 1) := by decide +kernel
theorem dX12_restore_1 : decode cX12_restore 1 = .ok (.i2l, 1) := by decide +kernel
theorem dX12_restore_2 : decode cX12_restore 2 = .ok (.lconst 0, 1) := by decide +kernel
theorem dX12_restore_3 : decode cX12_restore 3 = .ok (.lconst 1, 1) := by decide +kernel
theorem dX12_restore_4 : decode cX12_restore 4 = .ok (.invokestatic 59, 3) := by decide +kernel
theorem dX12_restore_7 : decode cX12_restore 7 = .ok (.ifCond .ne 5, 3) := by decide +kernel
theorem dX12_restore_10 : decode cX12_restore 10 = .ok (.iconst (-1), 1) := by decide +kernel
theorem dX12_restore_11 : decode cX12_restore 11 = .ok (.ireturn, 1) := by decide +kernel
theorem dX12_restore_12 : decode cX12_restore 12 = .ok (.aload_n 0, 1) := by decide +kernel
theorem dX12_restore_13 : decode cX12_restore 13 = .ok (.getfield 31, 3) := by decide +kernel
theorem dX12_restore_16 : decode cX12_restore 16 = .ok (.iload_n 1, 1) := by decide +kernel
theorem dX12_restore_17 : decode cX12_restore 17 = .ok (.baload, 1) := by decide +kernel
theorem dX12_restore_18 : decode cX12_restore 18 = .ok (.ifCond .ne 6, 3) := by decide +kernel
theorem dX12_restore_21 : decode cX12_restore 21 = .ok (.bipush (-2), 2) := by decide +kernel
theorem dX12_restore_23 : decode cX12_restore 23 = .ok (.ireturn, 1) := by decide +kernel
theorem dX12_restore_24 : decode cX12_restore 24 = .ok (.aload_n 0, 1) := by decide +kernel
theorem dX12_restore_25 : decode cX12_restore 25 = .ok (.getfield 28, 3) := by decide +kernel
theorem dX12_restore_28 : decode cX12_restore 28 = .ok (.bipush 67, 2) := by decide +kernel
theorem dX12_restore_30 : decode cX12_restore 30 = .ok (.iload_n 1, 1) := by decide +kernel
theorem dX12_restore_31 : decode cX12_restore 31 = .ok (.imul, 1) := by decide +kernel
theorem dX12_restore_32 : decode cX12_restore 32 = .ok (.aload_n 0, 1) := by decide +kernel
theorem dX12_restore_33 : decode cX12_restore 33 = .ok (.getfield 7, 3) := by decide +kernel
theorem dX12_restore_36 : decode cX12_restore 36 = .ok (.iconst 0, 1) := by decide +kernel
theorem dX12_restore_37 : decode cX12_restore 37 = .ok (.bipush 26, 2) := by decide +kernel
theorem dX12_restore_39 : decode cX12_restore 39 = .ok (.invokestatic 105, 3) := by decide +kernel
theorem dX12_restore_42 : decode cX12_restore 42 = .ok (.aload_n 0, 1) := by decide +kernel
theorem dX12_restore_43 : decode cX12_restore 43 = .ok (.getfield 28, 3) := by decide +kernel
theorem dX12_restore_46 : decode cX12_restore 46 = .ok (.bipush 67, 2) := by decide +kernel
theorem dX12_restore_48 : decode cX12_restore 48 = .ok (.iload_n 1, 1) := by decide +kernel
theorem dX12_restore_49 : decode cX12_restore 49 = .ok (.imul, 1) := by decide +kernel
theorem dX12_restore_50 : decode cX12_restore 50 = .ok (.bipush 26, 2) := by decide +kernel
theorem dX12_restore_52 : decode cX12_restore 52 = .ok (.iadd, 1) := by decide +kernel
theorem dX12_restore_53 : decode cX12_restore 53 = .ok (.aload_n 0, 1) := by decide +kernel
theorem dX12_restore_54 : decode cX12_restore 54 = .ok (.getfield 19, 3) := by decide +kernel
theorem dX12_restore_57 : decode cX12_restore 57 = .ok (.iconst 0, 1) := by decide +kernel
theorem dX12_restore_58 : decode cX12_restore 58 = .ok (.bipush 40, 2) := by decide +kernel
theorem dX12_restore_60 : decode cX12_restore 60 = .ok (.invokestatic 105, 3) := by decide +kernel
theorem dX12_restore_63 : decode cX12_restore 63 = .ok (.aload_n 0, 1) := by decide +kernel
theorem dX12_restore_64 : decode cX12_restore 64 = .ok (.aload_n 0, 1) := by decide +kernel
theorem dX12_restore_65 : decode cX12_restore 65 = .ok (.getfield 28, 3) := by decide +kernel
theorem dX12_restore_68 : decode cX12_restore 68 = .ok (.bipush 67, 2) := by decide +kernel
theorem dX12_restore_70 : decode cX12_restore 70 = .ok (.iload_n 1, 1) := by decide +kernel
theorem dX12_restore_71 : decode cX12_restore 71 = .ok (.imul, 1) := by decide +kernel
theorem dX12_restore_72 : decode cX12_restore 72 = .ok (.bipush 26, 2) := by decide +kernel
theorem dX12_restore_74 : decode cX12_restore 74 = .ok (.iadd, 1) := by decide +kernel
theorem dX12_restore_75 : decode cX12_restore 75 = .ok (.bipush 40, 2) := by decide +kernel
theorem dX12_restore_77 : decode cX12_restore 77 = .ok (.iadd, 1) := by decide +kernel
theorem dX12_restore_78 : decode cX12_restore 78 = .ok (.iaload, 1) := by decide +kernel
theorem dX12_restore_79 : decode cX12_restore 79 = .ok (.putfield 109, 3) := by decide +kernel
theorem dX12_restore_82 : decode cX12_restore 82 = .ok (.aload_n 0, 1) := by decide +kernel
theorem dX12_restore_83 : decode cX12_restore 83 = .ok (.iconst 0, 1) := by decide +kernel
theorem dX12_restore_84 : decode cX12_restore 84 = .ok (.putfield 112, 3) := by decide +kernel
theorem dX12_restore_87 : decode cX12_restore 87 = .ok (.aload_n 0, 1) := by decide +kernel
theorem dX12_restore_88 : decode cX12_restore 88 = .ok (.getfield 109, 3) := by decide +kernel
theorem dX12_restore_91 : decode cX12_restore 91 = .ok (.ireturn, 1) := by decide +kernel
theorem dX12_laysAside_0 : decode cX12_laysAside 0 = .ok (.aload_n 0, 1) := by decide +kernel
theorem dX12_laysAside_1 : decode cX12_laysAside 1 = .ok (.getfield 19, 3) := by decide +kernel
theorem dX12_laysAside_4 : decode cX12_laysAside 4 = .ok (.iconst 0, 1) := by decide +kernel
theorem dX12_laysAside_5 : decode cX12_laysAside 5 = .ok (.aload_n 0, 1) := by decide +kernel
theorem dX12_laysAside_6 : decode cX12_laysAside 6 = .ok (.getfield 22, 3) := by decide +kernel
theorem dX12_laysAside_9 : decode cX12_laysAside 9 = .ok (.iconst 0, 1) := by decide +kernel
theorem dX12_laysAside_10 : decode cX12_laysAside 10 = .ok (.bipush 40, 2) := by decide +kernel
theorem dX12_laysAside_12 : decode cX12_laysAside 12 = .ok (.invokestatic 105, 3) := by decide +kernel
theorem dX12_laysAside_15 : decode cX12_laysAside 15 = .ok (.return_, 1) := by decide +kernel
theorem dX12_doingsThere_0 : decode cX12_doingsThere 0 = .ok (.aload_n 0, 1) := by decide +kernel
theorem dX12_doingsThere_1 : decode cX12_doingsThere 1 = .ok (.getfield 7, 3) := by decide +kernel
theorem dX12_doingsThere_4 : decode cX12_doingsThere 4 = .ok (.iconst 1, 1) := by decide +kernel
theorem dX12_doingsThere_5 : decode cX12_doingsThere 5 = .ok (.iaload, 1) := by decide +kernel
theorem dX12_doingsThere_6 : decode cX12_doingsThere 6 = .ok (.aload_n 0, 1) := by decide +kernel
theorem dX12_doingsThere_7 : decode cX12_doingsThere 7 = .ok (.getfield 7, 3) := by decide +kernel
theorem dX12_doingsThere_10 : decode cX12_doingsThere 10 = .ok (.iconst 2, 1) := by decide +kernel
theorem dX12_doingsThere_11 : decode cX12_doingsThere 11 = .ok (.iaload, 1) := by decide +kernel
theorem dX12_doingsThere_12 : decode cX12_doingsThere 12 = .ok (.iadd, 1) := by decide +kernel
theorem dX12_doingsThere_13 : decode cX12_doingsThere 13 = .ok (.iconst 2, 1) := by decide +kernel
theorem dX12_doingsThere_14 : decode cX12_doingsThere 14 = .ok (.iadd, 1) := by decide +kernel
theorem dX12_doingsThere_15 : decode cX12_doingsThere 15 = .ok (.ireturn, 1) := by decide +kernel
theorem dX12_doingOf_0 : decode cX12_doingOf 0 = .ok (.aload_n 0, 1) := by decide +kernel
theorem dX12_doingOf_1 : decode cX12_doingOf 1 = .ok (.getfield 7, 3) := by decide +kernel
theorem dX12_doingOf_4 : decode cX12_doingOf 4 = .ok (.iconst 1, 1) := by decide +kernel
theorem dX12_doingOf_5 : decode cX12_doingOf 5 = .ok (.iaload, 1) := by decide +kernel
theorem dX12_doingOf_6 : decode cX12_doingOf 6 = .ok (.istore_n 2, 1) := by decide +kernel
theorem dX12_doingOf_7 : decode cX12_doingOf 7 = .ok (.aload_n 0, 1) := by decide +kernel
theorem dX12_doingOf_8 : decode cX12_doingOf 8 = .ok (.getfield 7, 3) := by decide +kernel
theorem dX12_doingOf_11 : decode cX12_doingOf 11 = .ok (.iconst 2, 1) := by decide +kernel
theorem dX12_doingOf_12 : decode cX12_doingOf 12 = .ok (.iaload, 1) := by decide +kernel
theorem dX12_doingOf_13 : decode cX12_doingOf 13 = .ok (.istore_n 3, 1) := by decide +kernel
theorem dX12_doingOf_14 : decode cX12_doingOf 14 = .ok (.iload_n 1, 1) := by decide +kernel
theorem dX12_doingOf_15 : decode cX12_doingOf 15 = .ok (.iload_n 2, 1) := by decide +kernel
theorem dX12_doingOf_16 : decode cX12_doingOf 16 = .ok (.if_icmp .ge 7, 3) := by decide +kernel
theorem dX12_doingOf_19 : decode cX12_doingOf 19 = .ok (.iload_n 1, 1) := by decide +kernel
theorem dX12_doingOf_20 : decode cX12_doingOf 20 = .ok (.goto 27, 3) := by decide +kernel
theorem dX12_doingOf_23 : decode cX12_doingOf 23 = .ok (.iload_n 1, 1) := by decide +kernel
theorem dX12_doingOf_24 : decode cX12_doingOf 24 = .ok (.iload_n 2, 1) := by decide +kernel
theorem dX12_doingOf_25 : decode cX12_doingOf 25 = .ok (.iload_n 3, 1) := by decide +kernel
theorem dX12_doingOf_26 : decode cX12_doingOf 26 = .ok (.iadd, 1) := by decide +kernel
theorem dX12_doingOf_27 : decode cX12_doingOf 27 = .ok (.if_icmp .ge 12, 3) := by decide +kernel
theorem dX12_doingOf_30 : decode cX12_doingOf 30 = .ok (.bipush 10, 2) := by decide +kernel
theorem dX12_doingOf_32 : decode cX12_doingOf 32 = .ok (.iload_n 1, 1) := by decide +kernel
theorem dX12_doingOf_33 : decode cX12_doingOf 33 = .ok (.iadd, 1) := by decide +kernel
theorem dX12_doingOf_34 : decode cX12_doingOf 34 = .ok (.iload_n 2, 1) := by decide +kernel
theorem dX12_doingOf_35 : decode cX12_doingOf 35 = .ok (.isub, 1) := by decide +kernel
theorem dX12_doingOf_36 : decode cX12_doingOf 36 = .ok (.goto 11, 3) := by decide +kernel
theorem dX12_doingOf_39 : decode cX12_doingOf 39 = .ok (.bipush 20, 2) := by decide +kernel
theorem dX12_doingOf_41 : decode cX12_doingOf 41 = .ok (.iload_n 1, 1) := by decide +kernel
theorem dX12_doingOf_42 : decode cX12_doingOf 42 = .ok (.iadd, 1) := by decide +kernel
theorem dX12_doingOf_43 : decode cX12_doingOf 43 = .ok (.iload_n 2, 1) := by decide +kernel
theorem dX12_doingOf_44 : decode cX12_doingOf 44 = .ok (.isub, 1) := by decide +kernel
theorem dX12_doingOf_45 : decode cX12_doingOf 45 = .ok (.iload_n 3, 1) := by decide +kernel
theorem dX12_doingOf_46 : decode cX12_doingOf 46 = .ok (.isub, 1) := by decide +kernel
theorem dX12_doingOf_47 : decode cX12_doingOf 47 = .ok (.ireturn, 1) := by decide +kernel
theorem dX12_plan_0 : decode cX12_plan 0 = .ok (.iload_n 1, 1) := by decide +kernel
theorem dX12_plan_1 : decode cX12_plan 1 = .ok (.i2l, 1) := by decide +kernel
theorem dX12_plan_2 : decode cX12_plan 2 = .ok (.lconst 0, 1) := by decide +kernel
theorem dX12_plan_3 : decode cX12_plan 3 = .ok (.ldc2_w 188, 3) := by decide +kernel
theorem dX12_plan_6 : decode cX12_plan 6 = .ok (.invokestatic 59, 3) := by decide +kernel
theorem dX12_plan_9 : decode cX12_plan 9 = .ok (.ifCond .eq 9, 3) := by decide +kernel
theorem dX12_plan_12 : decode cX12_plan 12 = .ok (.iload_n 2, 1) := by decide +kernel
theorem dX12_plan_13 : decode cX12_plan 13 = .ok (.bipush (-2), 2) := by decide +kernel
theorem dX12_plan_15 : decode cX12_plan 15 = .ok (.if_icmp .ge 5, 3) := by decide +kernel
theorem dX12_plan_18 : decode cX12_plan 18 = .ok (.iconst (-1), 1) := by decide +kernel
theorem dX12_plan_19 : decode cX12_plan 19 = .ok (.ireturn, 1) := by decide +kernel
theorem dX12_plan_20 : decode cX12_plan 20 = .ok (.aload_n 0, 1) := by decide +kernel
theorem dX12_plan_21 : decode cX12_plan 21 = .ok (.getfield 7, 3) := by decide +kernel
theorem dX12_plan_24 : decode cX12_plan 24 = .ok (.iconst 0, 1) := by decide +kernel
theorem dX12_plan_25 : decode cX12_plan 25 = .ok (.iaload, 1) := by decide +kernel
theorem dX12_plan_26 : decode cX12_plan 26 = .ok (.ifCond .ne 6, 3) := by decide +kernel
theorem dX12_plan_29 : decode cX12_plan 29 = .ok (.bipush (-2), 2) := by decide +kernel
theorem dX12_plan_31 : decode cX12_plan 31 = .ok (.ireturn, 1) := by decide +kernel
theorem dX12_plan_32 : decode cX12_plan 32 = .ok (.aload_n 0, 1) := by decide +kernel
theorem dX12_plan_33 : decode cX12_plan 33 = .ok (.invokevirtual 190, 3) := by decide +kernel
theorem dX12_plan_36 : decode cX12_plan 36 = .ok (.istore_n 3, 1) := by decide +kernel
theorem dX12_plan_37 : decode cX12_plan 37 = .ok (.iconst (-1), 1) := by decide +kernel
theorem dX12_plan_38 : decode cX12_plan 38 = .ok (.istore 4, 2) := by decide +kernel
theorem dX12_plan_40 : decode cX12_plan 40 = .ok (.iconst 0, 1) := by decide +kernel
theorem dX12_plan_41 : decode cX12_plan 41 = .ok (.istore 5, 2) := by decide +kernel
theorem dX12_plan_43 : decode cX12_plan 43 = .ok (.iconst 0, 1) := by decide +kernel
theorem dX12_plan_44 : decode cX12_plan 44 = .ok (.istore 6, 2) := by decide +kernel
theorem dX12_plan_46 : decode cX12_plan 46 = .ok (.iconst 1, 1) := by decide +kernel
theorem dX12_plan_47 : decode cX12_plan 47 = .ok (.istore 7, 2) := by decide +kernel
theorem dX12_plan_49 : decode cX12_plan 49 = .ok (.iconst 0, 1) := by decide +kernel
theorem dX12_plan_50 : decode cX12_plan 50 = .ok (.istore 8, 2) := by decide +kernel
theorem dX12_plan_52 : decode cX12_plan 52 = .ok (.iload 8, 2) := by decide +kernel
theorem dX12_plan_54 : decode cX12_plan 54 = .ok (.iload_n 1, 1) := by decide +kernel
theorem dX12_plan_55 : decode cX12_plan 55 = .ok (.if_icmp .gt 106, 3) := by decide +kernel
theorem dX12_plan_58 : decode cX12_plan 58 = .ok (.iconst 0, 1) := by decide +kernel
theorem dX12_plan_59 : decode cX12_plan 59 = .ok (.istore 9, 2) := by decide +kernel
theorem dX12_plan_61 : decode cX12_plan 61 = .ok (.iload 9, 2) := by decide +kernel
theorem dX12_plan_63 : decode cX12_plan 63 = .ok (.iload 7, 2) := by decide +kernel
theorem dX12_plan_65 : decode cX12_plan 65 = .ok (.if_icmp .ge 84, 3) := by decide +kernel
theorem dX12_plan_68 : decode cX12_plan 68 = .ok (.aload_n 0, 1) := by decide +kernel
theorem dX12_plan_69 : decode cX12_plan 69 = .ok (.invokevirtual 193, 3) := by decide +kernel
theorem dX12_plan_72 : decode cX12_plan 72 = .ok (.iload 7, 2) := by decide +kernel
theorem dX12_plan_74 : decode cX12_plan 74 = .ok (.iload_n 3, 1) := by decide +kernel
theorem dX12_plan_75 : decode cX12_plan 75 = .ok (.idiv, 1) := by decide +kernel
theorem dX12_plan_76 : decode cX12_plan 76 = .ok (.istore 10, 2) := by decide +kernel
theorem dX12_plan_78 : decode cX12_plan 78 = .ok (.iload 10, 2) := by decide +kernel
theorem dX12_plan_80 : decode cX12_plan 80 = .ok (.ifCond .le 31, 3) := by decide +kernel
theorem dX12_plan_83 : decode cX12_plan 83 = .ok (.aload_n 0, 1) := by decide +kernel
theorem dX12_plan_84 : decode cX12_plan 84 = .ok (.aload_n 0, 1) := by decide +kernel
theorem dX12_plan_85 : decode cX12_plan 85 = .ok (.getfield 22, 3) := by decide +kernel
theorem dX12_plan_88 : decode cX12_plan 88 = .ok (.aload_n 0, 1) := by decide +kernel
theorem dX12_plan_89 : decode cX12_plan 89 = .ok (.iload 9, 2) := by decide +kernel
theorem dX12_plan_91 : decode cX12_plan 91 = .ok (.iload 10, 2) := by decide +kernel
theorem dX12_plan_93 : decode cX12_plan 93 = .ok (.idiv, 1) := by decide +kernel
theorem dX12_plan_94 : decode cX12_plan 94 = .ok (.iload_n 3, 1) := by decide +kernel
theorem dX12_plan_95 : decode cX12_plan 95 = .ok (.irem, 1) := by decide +kernel
theorem dX12_plan_96 : decode cX12_plan 96 = .ok (.invokevirtual 196, 3) := by decide +kernel
theorem dX12_plan_99 : decode cX12_plan 99 = .ok (.invokevirtual 179, 3) := by decide +kernel
theorem dX12_plan_102 : decode cX12_plan 102 = .ok (.iload 10, 2) := by decide +kernel
theorem dX12_plan_104 : decode cX12_plan 104 = .ok (.iload_n 3, 1) := by decide +kernel
theorem dX12_plan_105 : decode cX12_plan 105 = .ok (.idiv, 1) := by decide +kernel
theorem dX12_plan_106 : decode cX12_plan 106 = .ok (.istore 10, 2) := by decide +kernel
theorem dX12_plan_108 : decode cX12_plan 108 = .ok (.goto (-30), 3) := by decide +kernel
theorem dX12_plan_111 : decode cX12_plan 111 = .ok (.aload_n 0, 1) := by decide +kernel
theorem dX12_plan_112 : decode cX12_plan 112 = .ok (.aload_n 0, 1) := by decide +kernel
theorem dX12_plan_113 : decode cX12_plan 113 = .ok (.getfield 22, 3) := by decide +kernel
theorem dX12_plan_116 : decode cX12_plan 116 = .ok (.invokevirtual 182, 3) := by decide +kernel
theorem dX12_plan_119 : decode cX12_plan 119 = .ok (.invokestatic 199, 3) := by decide +kernel
theorem dX12_plan_122 : decode cX12_plan 122 = .ok (.istore 10, 2) := by decide +kernel
theorem dX12_plan_124 : decode cX12_plan 124 = .ok (.iload 10, 2) := by decide +kernel
theorem dX12_plan_126 : decode cX12_plan 126 = .ok (.iload 4, 2) := by decide +kernel
theorem dX12_plan_128 : decode cX12_plan 128 = .ok (.if_icmp .le 15, 3) := by decide +kernel
theorem dX12_plan_131 : decode cX12_plan 131 = .ok (.iload 10, 2) := by decide +kernel
theorem dX12_plan_133 : decode cX12_plan 133 = .ok (.istore 4, 2) := by decide +kernel
theorem dX12_plan_135 : decode cX12_plan 135 = .ok (.iload 9, 2) := by decide +kernel
theorem dX12_plan_137 : decode cX12_plan 137 = .ok (.istore 5, 2) := by decide +kernel
theorem dX12_plan_139 : decode cX12_plan 139 = .ok (.iload 8, 2) := by decide +kernel
theorem dX12_plan_141 : decode cX12_plan 141 = .ok (.istore 6, 2) := by decide +kernel
theorem dX12_plan_143 : decode cX12_plan 143 = .ok (.iinc 9 1, 3) := by decide +kernel
theorem dX12_plan_146 : decode cX12_plan 146 = .ok (.goto (-85), 3) := by decide +kernel
theorem dX12_plan_149 : decode cX12_plan 149 = .ok (.iload 7, 2) := by decide +kernel
theorem dX12_plan_151 : decode cX12_plan 151 = .ok (.iload_n 3, 1) := by decide +kernel
theorem dX12_plan_152 : decode cX12_plan 152 = .ok (.imul, 1) := by decide +kernel
theorem dX12_plan_153 : decode cX12_plan 153 = .ok (.istore 7, 2) := by decide +kernel
theorem dX12_plan_155 : decode cX12_plan 155 = .ok (.iinc 8 1, 3) := by decide +kernel
theorem dX12_plan_158 : decode cX12_plan 158 = .ok (.goto (-106), 3) := by decide +kernel
theorem dX12_plan_161 : decode cX12_plan 161 = .ok (.iload_n 2, 1) := by decide +kernel
theorem dX12_plan_162 : decode cX12_plan 162 = .ok (.ifCond .ge 17, 3) := by decide +kernel
theorem dX12_plan_165 : decode cX12_plan 165 = .ok (.iload_n 2, 1) := by decide +kernel
theorem dX12_plan_166 : decode cX12_plan 166 = .ok (.bipush (-2), 2) := by decide +kernel
theorem dX12_plan_168 : decode cX12_plan 168 = .ok (.if_icmp .ne 8, 3) := by decide +kernel
theorem dX12_plan_171 : decode cX12_plan 171 = .ok (.iload 4, 2) := by decide +kernel
theorem dX12_plan_173 : decode cX12_plan 173 = .ok (.goto 5, 3) := by decide +kernel
theorem dX12_plan_176 : decode cX12_plan 176 = .ok (.iload 6, 2) := by decide +kernel
theorem dX12_plan_178 : decode cX12_plan 178 = .ok (.ireturn, 1) := by decide +kernel
theorem dX12_plan_179 : decode cX12_plan 179 = .ok (.iload_n 2, 1) := by decide +kernel
theorem dX12_plan_180 : decode cX12_plan 180 = .ok (.iload 6, 2) := by decide +kernel
theorem dX12_plan_182 : decode cX12_plan 182 = .ok (.if_icmp .lt 6, 3) := by decide +kernel
theorem dX12_plan_185 : decode cX12_plan 185 = .ok (.bipush (-4), 2) := by decide +kernel
theorem dX12_plan_187 : decode cX12_plan 187 = .ok (.ireturn, 1) := by decide +kernel
theorem dX12_plan_188 : decode cX12_plan 188 = .ok (.iload 6, 2) := by decide +kernel
theorem dX12_plan_190 : decode cX12_plan 190 = .ok (.iconst 1, 1) := by decide +kernel
theorem dX12_plan_191 : decode cX12_plan 191 = .ok (.isub, 1) := by decide +kernel
theorem dX12_plan_192 : decode cX12_plan 192 = .ok (.istore 8, 2) := by decide +kernel
theorem dX12_plan_194 : decode cX12_plan 194 = .ok (.iload 8, 2) := by decide +kernel
theorem dX12_plan_196 : decode cX12_plan 196 = .ok (.iload_n 2, 1) := by decide +kernel
theorem dX12_plan_197 : decode cX12_plan 197 = .ok (.if_icmp .le 15, 3) := by decide +kernel
theorem dX12_plan_200 : decode cX12_plan 200 = .ok (.iload 5, 2) := by decide +kernel
theorem dX12_plan_202 : decode cX12_plan 202 = .ok (.iload_n 3, 1) := by decide +kernel
theorem dX12_plan_203 : decode cX12_plan 203 = .ok (.idiv, 1) := by decide +kernel
theorem dX12_plan_204 : decode cX12_plan 204 = .ok (.istore 5, 2) := by decide +kernel
theorem dX12_plan_206 : decode cX12_plan 206 = .ok (.iinc 8 (-1), 3) := by decide +kernel
theorem dX12_plan_209 : decode cX12_plan 209 = .ok (.goto (-15), 3) := by decide +kernel
theorem dX12_plan_212 : decode cX12_plan 212 = .ok (.aload_n 0, 1) := by decide +kernel
theorem dX12_plan_213 : decode cX12_plan 213 = .ok (.iload 5, 2) := by decide +kernel
theorem dX12_plan_215 : decode cX12_plan 215 = .ok (.iload_n 3, 1) := by decide +kernel
theorem dX12_plan_216 : decode cX12_plan 216 = .ok (.irem, 1) := by decide +kernel
theorem dX12_plan_217 : decode cX12_plan 217 = .ok (.invokevirtual 196, 3) := by decide +kernel
theorem dX12_plan_220 : decode cX12_plan 220 = .ok (.ireturn, 1) := by decide +kernel
theorem dX12_whitens_0 : decode cX12_whitens 0 = .ok (.iconst 0, 1) := by decide +kernel
theorem dX12_whitens_1 : decode cX12_whitens 1 = .ok (.istore_n 2, 1) := by decide +kernel
theorem dX12_whitens_2 : decode cX12_whitens 2 = .ok (.iload_n 2, 1) := by decide +kernel
theorem dX12_whitens_3 : decode cX12_whitens 3 = .ok (.iconst 3, 1) := by decide +kernel
theorem dX12_whitens_4 : decode cX12_whitens 4 = .ok (.if_icmp .ge 22, 3) := by decide +kernel
theorem dX12_whitens_7 : decode cX12_whitens 7 = .ok (.aload_n 0, 1) := by decide +kernel
theorem dX12_whitens_8 : decode cX12_whitens 8 = .ok (.getfield 22, 3) := by decide +kernel
theorem dX12_whitens_11 : decode cX12_whitens 11 = .ok (.iconst 0, 1) := by decide +kernel
theorem dX12_whitens_12 : decode cX12_whitens 12 = .ok (.iconst 3, 1) := by decide +kernel
theorem dX12_whitens_13 : decode cX12_whitens 13 = .ok (.iload_n 1, 1) := by decide +kernel
theorem dX12_whitens_14 : decode cX12_whitens 14 = .ok (.imul, 1) := by decide +kernel
theorem dX12_whitens_15 : decode cX12_whitens 15 = .ok (.iadd, 1) := by decide +kernel
theorem dX12_whitens_16 : decode cX12_whitens 16 = .ok (.iload_n 2, 1) := by decide +kernel
theorem dX12_whitens_17 : decode cX12_whitens 17 = .ok (.iadd, 1) := by decide +kernel
theorem dX12_whitens_18 : decode cX12_whitens 18 = .ok (.iconst 0, 1) := by decide +kernel
theorem dX12_whitens_19 : decode cX12_whitens 19 = .ok (.iastore, 1) := by decide +kernel
theorem dX12_whitens_20 : decode cX12_whitens 20 = .ok (.iinc 2 1, 3) := by decide +kernel
theorem dX12_whitens_23 : decode cX12_whitens 23 = .ok (.goto (-21), 3) := by decide +kernel
theorem dX12_whitens_26 : decode cX12_whitens 26 = .ok (.aload_n 0, 1) := by decide +kernel
theorem dX12_whitens_27 : decode cX12_whitens 27 = .ok (.getfield 22, 3) := by decide +kernel
theorem dX12_whitens_30 : decode cX12_whitens 30 = .ok (.bipush 24, 2) := by decide +kernel
theorem dX12_whitens_32 : decode cX12_whitens 32 = .ok (.iload_n 1, 1) := by decide +kernel
theorem dX12_whitens_33 : decode cX12_whitens 33 = .ok (.iadd, 1) := by decide +kernel
theorem dX12_whitens_34 : decode cX12_whitens 34 = .ok (.iconst 0, 1) := by decide +kernel
theorem dX12_whitens_35 : decode cX12_whitens 35 = .ok (.iastore, 1) := by decide +kernel
theorem dX12_whitens_36 : decode cX12_whitens 36 = .ok (.return_, 1) := by decide +kernel
theorem dX12_power_0 : decode cX12_power 0 = .ok (.iconst 1, 1) := by decide +kernel
theorem dX12_power_1 : decode cX12_power 1 = .ok (.istore_n 2, 1) := by decide +kernel
theorem dX12_power_2 : decode cX12_power 2 = .ok (.iconst 0, 1) := by decide +kernel
theorem dX12_power_3 : decode cX12_power 3 = .ok (.istore_n 3, 1) := by decide +kernel
theorem dX12_power_4 : decode cX12_power 4 = .ok (.iload_n 3, 1) := by decide +kernel
theorem dX12_power_5 : decode cX12_power 5 = .ok (.iload_n 1, 1) := by decide +kernel
theorem dX12_power_6 : decode cX12_power 6 = .ok (.if_icmp .ge 13, 3) := by decide +kernel
theorem dX12_power_9 : decode cX12_power 9 = .ok (.iload_n 2, 1) := by decide +kernel
theorem dX12_power_10 : decode cX12_power 10 = .ok (.iload_n 0, 1) := by decide +kernel
theorem dX12_power_11 : decode cX12_power 11 = .ok (.imul, 1) := by decide +kernel
theorem dX12_power_12 : decode cX12_power 12 = .ok (.istore_n 2, 1) := by decide +kernel
theorem dX12_power_13 : decode cX12_power 13 = .ok (.iinc 3 1, 3) := by decide +kernel
theorem dX12_power_16 : decode cX12_power 16 = .ok (.goto (-12), 3) := by decide +kernel
theorem dX12_power_19 : decode cX12_power 19 = .ok (.iload_n 2, 1) := by decide +kernel
theorem dX12_power_20 : decode cX12_power 20 = .ok (.ireturn, 1) := by decide +kernel
theorem dX12_shadeOf_0 : decode cX12_shadeOf 0 = .ok (.aload_n 0, 1) := by decide +kernel
theorem dX12_shadeOf_1 : decode cX12_shadeOf 1 = .ok (.iload_n 1, 1) := by decide +kernel
theorem dX12_shadeOf_2 : decode cX12_shadeOf 2 = .ok (.invokevirtual 202, 3) := by decide +kernel
theorem dX12_shadeOf_5 : decode cX12_shadeOf 5 = .ok (.iload_n 3, 1) := by decide +kernel
theorem dX12_shadeOf_6 : decode cX12_shadeOf 6 = .ok (.iconst 1, 1) := by decide +kernel
theorem dX12_shadeOf_7 : decode cX12_shadeOf 7 = .ok (.isub, 1) := by decide +kernel
theorem dX12_shadeOf_8 : decode cX12_shadeOf 8 = .ok (.istore 4, 2) := by decide +kernel
theorem dX12_shadeOf_10 : decode cX12_shadeOf 10 = .ok (.iload 4, 2) := by decide +kernel
theorem dX12_shadeOf_12 : decode cX12_shadeOf 12 = .ok (.ifCond .lt 38, 3) := by decide +kernel
theorem dX12_shadeOf_15 : decode cX12_shadeOf 15 = .ok (.aload_n 0, 1) := by decide +kernel
theorem dX12_shadeOf_16 : decode cX12_shadeOf 16 = .ok (.aload_n 0, 1) := by decide +kernel
theorem dX12_shadeOf_17 : decode cX12_shadeOf 17 = .ok (.getfield 22, 3) := by decide +kernel
theorem dX12_shadeOf_20 : decode cX12_shadeOf 20 = .ok (.iload_n 1, 1) := by decide +kernel
theorem dX12_shadeOf_21 : decode cX12_shadeOf 21 = .ok (.iload_n 2, 1) := by decide +kernel
theorem dX12_shadeOf_22 : decode cX12_shadeOf 22 = .ok (.aload_n 0, 1) := by decide +kernel
theorem dX12_shadeOf_23 : decode cX12_shadeOf 23 = .ok (.getfield 7, 3) := by decide +kernel
theorem dX12_shadeOf_26 : decode cX12_shadeOf 26 = .ok (.iconst 1, 1) := by decide +kernel
theorem dX12_shadeOf_27 : decode cX12_shadeOf 27 = .ok (.iaload, 1) := by decide +kernel
theorem dX12_shadeOf_28 : decode cX12_shadeOf 28 = .ok (.iload 4, 2) := by decide +kernel
theorem dX12_shadeOf_30 : decode cX12_shadeOf 30 = .ok (.invokestatic 206, 3) := by decide +kernel
theorem dX12_shadeOf_33 : decode cX12_shadeOf 33 = .ok (.idiv, 1) := by decide +kernel
theorem dX12_shadeOf_34 : decode cX12_shadeOf 34 = .ok (.aload_n 0, 1) := by decide +kernel
theorem dX12_shadeOf_35 : decode cX12_shadeOf 35 = .ok (.getfield 7, 3) := by decide +kernel
theorem dX12_shadeOf_38 : decode cX12_shadeOf 38 = .ok (.iconst 1, 1) := by decide +kernel
theorem dX12_shadeOf_39 : decode cX12_shadeOf 39 = .ok (.iaload, 1) := by decide +kernel
theorem dX12_shadeOf_40 : decode cX12_shadeOf 40 = .ok (.irem, 1) := by decide +kernel
theorem dX12_shadeOf_41 : decode cX12_shadeOf 41 = .ok (.invokevirtual 147, 3) := by decide +kernel
theorem dX12_shadeOf_44 : decode cX12_shadeOf 44 = .ok (.iinc 4 (-1), 3) := by decide +kernel
theorem dX12_shadeOf_47 : decode cX12_shadeOf 47 = .ok (.goto (-37), 3) := by decide +kernel
theorem dX12_shadeOf_50 : decode cX12_shadeOf 50 = .ok (.iconst 0, 1) := by decide +kernel
theorem dX12_shadeOf_51 : decode cX12_shadeOf 51 = .ok (.iconst 3, 1) := by decide +kernel
theorem dX12_shadeOf_52 : decode cX12_shadeOf 52 = .ok (.iload_n 1, 1) := by decide +kernel
theorem dX12_shadeOf_53 : decode cX12_shadeOf 53 = .ok (.imul, 1) := by decide +kernel
theorem dX12_shadeOf_54 : decode cX12_shadeOf 54 = .ok (.iadd, 1) := by decide +kernel
theorem dX12_shadeOf_55 : decode cX12_shadeOf 55 = .ok (.istore 4, 2) := by decide +kernel
theorem dX12_shadeOf_57 : decode cX12_shadeOf 57 = .ok (.bipush 100, 2) := by decide +kernel
theorem dX12_shadeOf_59 : decode cX12_shadeOf 59 = .ok (.aload_n 0, 1) := by decide +kernel
theorem dX12_shadeOf_60 : decode cX12_shadeOf 60 = .ok (.getfield 22, 3) := by decide +kernel
theorem dX12_shadeOf_63 : decode cX12_shadeOf 63 = .ok (.iload 4, 2) := by decide +kernel
theorem dX12_shadeOf_65 : decode cX12_shadeOf 65 = .ok (.iaload, 1) := by decide +kernel
theorem dX12_shadeOf_66 : decode cX12_shadeOf 66 = .ok (.imul, 1) := by decide +kernel
theorem dX12_shadeOf_67 : decode cX12_shadeOf 67 = .ok (.bipush 10, 2) := by decide +kernel
theorem dX12_shadeOf_69 : decode cX12_shadeOf 69 = .ok (.aload_n 0, 1) := by decide +kernel
theorem dX12_shadeOf_70 : decode cX12_shadeOf 70 = .ok (.getfield 22, 3) := by decide +kernel
theorem dX12_shadeOf_73 : decode cX12_shadeOf 73 = .ok (.iload 4, 2) := by decide +kernel
theorem dX12_shadeOf_75 : decode cX12_shadeOf 75 = .ok (.iconst 1, 1) := by decide +kernel
theorem dX12_shadeOf_76 : decode cX12_shadeOf 76 = .ok (.iadd, 1) := by decide +kernel
theorem dX12_shadeOf_77 : decode cX12_shadeOf 77 = .ok (.iaload, 1) := by decide +kernel
theorem dX12_shadeOf_78 : decode cX12_shadeOf 78 = .ok (.imul, 1) := by decide +kernel
theorem dX12_shadeOf_79 : decode cX12_shadeOf 79 = .ok (.iadd, 1) := by decide +kernel
theorem dX12_shadeOf_80 : decode cX12_shadeOf 80 = .ok (.aload_n 0, 1) := by decide +kernel
theorem dX12_shadeOf_81 : decode cX12_shadeOf 81 = .ok (.getfield 22, 3) := by decide +kernel
theorem dX12_shadeOf_84 : decode cX12_shadeOf 84 = .ok (.iload 4, 2) := by decide +kernel
theorem dX12_shadeOf_86 : decode cX12_shadeOf 86 = .ok (.iconst 2, 1) := by decide +kernel
theorem dX12_shadeOf_87 : decode cX12_shadeOf 87 = .ok (.iadd, 1) := by decide +kernel
theorem dX12_shadeOf_88 : decode cX12_shadeOf 88 = .ok (.iaload, 1) := by decide +kernel
theorem dX12_shadeOf_89 : decode cX12_shadeOf 89 = .ok (.iadd, 1) := by decide +kernel
theorem dX12_shadeOf_90 : decode cX12_shadeOf 90 = .ok (.ireturn, 1) := by decide +kernel
