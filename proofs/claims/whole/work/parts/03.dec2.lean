theorem dX9_isColour_0 : decode cX9_isColour 0 = .ok (.iload_n 0, 1) := by decide +kernel
theorem dX9_isColour_1 : decode cX9_isColour 1 = .ok (.ifCond .lt 12, 3) := by decide +kernel
theorem dX9_isColour_4 : decode cX9_isColour 4 = .ok (.iload_n 0, 1) := by decide +kernel
theorem dX9_isColour_5 : decode cX9_isColour 5 = .ok (.iconst 3, 1) := by decide +kernel
theorem dX9_isColour_6 : decode cX9_isColour 6 = .ok (.if_icmp .ge 7, 3) := by decide +kernel
theorem dX9_isColour_9 : decode cX9_isColour 9 = .ok (.iconst 1, 1) := by decide +kernel
theorem dX9_isColour_10 : decode cX9_isColour 10 = .ok (.goto 4, 3) := by decide +kernel
theorem dX9_isColour_13 : decode cX9_isColour 13 = .ok (.iconst 0, 1) := by decide +kernel
theorem dX9_isColour_14 : decode cX9_isColour 14 = .ok (.ireturn, 1) := by decide +kernel
theorem dX9_isAmount_0 : decode cX9_isAmount 0 = .ok (.iload_n 0, 1) := by decide +kernel
theorem dX9_isAmount_1 : decode cX9_isAmount 1 = .ok (.ifCond .lt 13, 3) := by decide +kernel
theorem dX9_isAmount_4 : decode cX9_isAmount 4 = .ok (.iload_n 0, 1) := by decide +kernel
theorem dX9_isAmount_5 : decode cX9_isAmount 5 = .ok (.bipush 9, 2) := by decide +kernel
theorem dX9_isAmount_7 : decode cX9_isAmount 7 = .ok (.if_icmp .gt 7, 3) := by decide +kernel
theorem dX9_isAmount_10 : decode cX9_isAmount 10 = .ok (.iconst 1, 1) := by decide +kernel
theorem dX9_isAmount_11 : decode cX9_isAmount 11 = .ok (.goto 4, 3) := by decide +kernel
theorem dX9_isAmount_14 : decode cX9_isAmount 14 = .ok (.iconst 0, 1) := by decide +kernel
theorem dX9_isAmount_15 : decode cX9_isAmount 15 = .ok (.ireturn, 1) := by decide +kernel
theorem dX9_ofShade_0 : decode cX9_ofShade 0 = .ok (.iload_n 0, 1) := by decide +kernel
theorem dX9_ofShade_1 : decode cX9_ofShade 1 = .ok (.iload_n 1, 1) := by decide +kernel
theorem dX9_ofShade_2 : decode cX9_ofShade 2 = .ok (.iconst 4, 1) := by decide +kernel
theorem dX9_ofShade_3 : decode cX9_ofShade 3 = .ok (.ishl, 1) := by decide +kernel
theorem dX9_ofShade_4 : decode cX9_ofShade 4 = .ok (.ior, 1) := by decide +kernel
theorem dX9_ofShade_5 : decode cX9_ofShade 5 = .ok (.iload_n 2, 1) := by decide +kernel
theorem dX9_ofShade_6 : decode cX9_ofShade 6 = .ok (.bipush 8, 2) := by decide +kernel
theorem dX9_ofShade_8 : decode cX9_ofShade 8 = .ok (.ishl, 1) := by decide +kernel
theorem dX9_ofShade_9 : decode cX9_ofShade 9 = .ok (.ior, 1) := by decide +kernel
theorem dX9_ofShade_10 : decode cX9_ofShade 10 = .ok (.ireturn, 1) := by decide +kernel
theorem dX9_amountOf_0 : decode cX9_amountOf 0 = .ok (.iload_n 0, 1) := by decide +kernel
theorem dX9_amountOf_1 : decode cX9_amountOf 1 = .ok (.iload_n 1, 1) := by decide +kernel
theorem dX9_amountOf_2 : decode cX9_amountOf 2 = .ok (.iconst 4, 1) := by decide +kernel
theorem dX9_amountOf_3 : decode cX9_amountOf 3 = .ok (.imul, 1) := by decide +kernel
theorem dX9_amountOf_4 : decode cX9_amountOf 4 = .ok (.ishr, 1) := by decide +kernel
theorem dX9_amountOf_5 : decode cX9_amountOf 5 = .ok (.bipush 15, 2) := by decide +kernel
theorem dX9_amountOf_7 : decode cX9_amountOf 7 = .ok (.iand, 1) := by decide +kernel
theorem dX9_amountOf_8 : decode cX9_amountOf 8 = .ok (.ireturn, 1) := by decide +kernel
theorem dX9_withMore_0 : decode cX9_withMore 0 = .ok (.iload_n 0, 1) := by decide +kernel
theorem dX9_withMore_1 : decode cX9_withMore 1 = .ok (.iload_n 2, 1) := by decide +kernel
theorem dX9_withMore_2 : decode cX9_withMore 2 = .ok (.iload_n 1, 1) := by decide +kernel
theorem dX9_withMore_3 : decode cX9_withMore 3 = .ok (.iconst 4, 1) := by decide +kernel
theorem dX9_withMore_4 : decode cX9_withMore 4 = .ok (.imul, 1) := by decide +kernel
theorem dX9_withMore_5 : decode cX9_withMore 5 = .ok (.ishl, 1) := by decide +kernel
theorem dX9_withMore_6 : decode cX9_withMore 6 = .ok (.iadd, 1) := by decide +kernel
theorem dX9_withMore_7 : decode cX9_withMore 7 = .ok (.ireturn, 1) := by decide +kernel
theorem dX9_waxIn_0 : decode cX9_waxIn 0 = .ok (.iload_n 0, 1) := by decide +kernel
theorem dX9_waxIn_1 : decode cX9_waxIn 1 = .ok (.bipush 12, 2) := by decide +kernel
theorem dX9_waxIn_3 : decode cX9_waxIn 3 = .ok (.ishr, 1) := by decide +kernel
theorem dX9_waxIn_4 : decode cX9_waxIn 4 = .ok (.ireturn, 1) := by decide +kernel
theorem dX9_withWax_0 : decode cX9_withWax 0 = .ok (.iload_n 0, 1) := by decide +kernel
theorem dX9_withWax_1 : decode cX9_withWax 1 = .ok (.sipush 4095, 3) := by decide +kernel
theorem dX9_withWax_4 : decode cX9_withWax 4 = .ok (.iand, 1) := by decide +kernel
theorem dX9_withWax_5 : decode cX9_withWax 5 = .ok (.iload_n 1, 1) := by decide +kernel
theorem dX9_withWax_6 : decode cX9_withWax 6 = .ok (.bipush 12, 2) := by decide +kernel
theorem dX9_withWax_8 : decode cX9_withWax 8 = .ok (.ishl, 1) := by decide +kernel
theorem dX9_withWax_9 : decode cX9_withWax 9 = .ok (.ior, 1) := by decide +kernel
theorem dX9_withWax_10 : decode cX9_withWax 10 = .ok (.ireturn, 1) := by decide +kernel
theorem dX9_hueOf_0 : decode cX9_hueOf 0 = .ok (.iload_n 0, 1) := by decide +kernel
theorem dX9_hueOf_1 : decode cX9_hueOf 1 = .ok (.iconst 0, 1) := by decide +kernel
theorem dX9_hueOf_2 : decode cX9_hueOf 2 = .ok (.invokestatic 9, 3) := by decide +kernel
theorem dX9_hueOf_5 : decode cX9_hueOf 5 = .ok (.iload_n 0, 1) := by decide +kernel
theorem dX9_hueOf_6 : decode cX9_hueOf 6 = .ok (.iconst 1, 1) := by decide +kernel
theorem dX9_hueOf_7 : decode cX9_hueOf 7 = .ok (.invokestatic 9, 3) := by decide +kernel
theorem dX9_hueOf_10 : decode cX9_hueOf 10 = .ok (.iload_n 0, 1) := by decide +kernel
theorem dX9_hueOf_11 : decode cX9_hueOf 11 = .ok (.iconst 2, 1) := by decide +kernel
theorem dX9_hueOf_12 : decode cX9_hueOf 12 = .ok (.invokestatic 9, 3) := by decide +kernel
theorem dX9_hueOf_15 : decode cX9_hueOf 15 = .ok (.invokestatic 13, 3) := by decide +kernel
theorem dX9_hueOf_18 : decode cX9_hueOf 18 = .ok (.invokestatic 13, 3) := by decide +kernel
theorem dX9_hueOf_21 : decode cX9_hueOf 21 = .ok (.istore_n 1, 1) := by decide +kernel
theorem dX9_hueOf_22 : decode cX9_hueOf 22 = .ok (.iconst 0, 1) := by decide +kernel
theorem dX9_hueOf_23 : decode cX9_hueOf 23 = .ok (.istore_n 2, 1) := by decide +kernel
theorem dX9_hueOf_24 : decode cX9_hueOf 24 = .ok (.iconst 0, 1) := by decide +kernel
theorem dX9_hueOf_25 : decode cX9_hueOf 25 = .ok (.istore_n 3, 1) := by decide +kernel
theorem dX9_hueOf_26 : decode cX9_hueOf 26 = .ok (.iload_n 3, 1) := by decide +kernel
theorem dX9_hueOf_27 : decode cX9_hueOf 27 = .ok (.iconst 3, 1) := by decide +kernel
theorem dX9_hueOf_28 : decode cX9_hueOf 28 = .ok (.if_icmp .ge 35, 3) := by decide +kernel
theorem dX9_hueOf_31 : decode cX9_hueOf 31 = .ok (.iload_n 0, 1) := by decide +kernel
theorem dX9_hueOf_32 : decode cX9_hueOf 32 = .ok (.iload_n 3, 1) := by decide +kernel
theorem dX9_hueOf_33 : decode cX9_hueOf 33 = .ok (.invokestatic 9, 3) := by decide +kernel
theorem dX9_hueOf_36 : decode cX9_hueOf 36 = .ok (.istore 4, 2) := by decide +kernel
theorem dX9_hueOf_38 : decode cX9_hueOf 38 = .ok (.iload 4, 2) := by decide +kernel
theorem dX9_hueOf_40 : decode cX9_hueOf 40 = .ok (.ifCond .le 17, 3) := by decide +kernel
theorem dX9_hueOf_43 : decode cX9_hueOf 43 = .ok (.iconst 2, 1) := by decide +kernel
theorem dX9_hueOf_44 : decode cX9_hueOf 44 = .ok (.iload 4, 2) := by decide +kernel
theorem dX9_hueOf_46 : decode cX9_hueOf 46 = .ok (.imul, 1) := by decide +kernel
theorem dX9_hueOf_47 : decode cX9_hueOf 47 = .ok (.iload_n 1, 1) := by decide +kernel
theorem dX9_hueOf_48 : decode cX9_hueOf 48 = .ok (.if_icmp .lt 9, 3) := by decide +kernel
theorem dX9_hueOf_51 : decode cX9_hueOf 51 = .ok (.iload_n 2, 1) := by decide +kernel
theorem dX9_hueOf_52 : decode cX9_hueOf 52 = .ok (.iconst 1, 1) := by decide +kernel
theorem dX9_hueOf_53 : decode cX9_hueOf 53 = .ok (.iload_n 3, 1) := by decide +kernel
theorem dX9_hueOf_54 : decode cX9_hueOf 54 = .ok (.ishl, 1) := by decide +kernel
theorem dX9_hueOf_55 : decode cX9_hueOf 55 = .ok (.ior, 1) := by decide +kernel
theorem dX9_hueOf_56 : decode cX9_hueOf 56 = .ok (.istore_n 2, 1) := by decide +kernel
theorem dX9_hueOf_57 : decode cX9_hueOf 57 = .ok (.iinc 3 1, 3) := by decide +kernel
theorem dX9_hueOf_60 : decode cX9_hueOf 60 = .ok (.goto (-34), 3) := by decide +kernel
theorem dX9_hueOf_63 : decode cX9_hueOf 63 = .ok (.iload_n 2, 1) := by decide +kernel
theorem dX9_hueOf_64 : decode cX9_hueOf 64 = .ok (.ireturn, 1) := by decide +kernel
theorem dX9_darkness_0 : decode cX9_darkness 0 = .ok (.iload_n 0, 1) := by decide +kernel
theorem dX9_darkness_1 : decode cX9_darkness 1 = .ok (.iconst 0, 1) := by decide +kernel
theorem dX9_darkness_2 : decode cX9_darkness 2 = .ok (.invokestatic 9, 3) := by decide +kernel
theorem dX9_darkness_5 : decode cX9_darkness 5 = .ok (.iload_n 0, 1) := by decide +kernel
theorem dX9_darkness_6 : decode cX9_darkness 6 = .ok (.iconst 1, 1) := by decide +kernel
theorem dX9_darkness_7 : decode cX9_darkness 7 = .ok (.invokestatic 9, 3) := by decide +kernel
theorem dX9_darkness_10 : decode cX9_darkness 10 = .ok (.iadd, 1) := by decide +kernel
theorem dX9_darkness_11 : decode cX9_darkness 11 = .ok (.iload_n 0, 1) := by decide +kernel
theorem dX9_darkness_12 : decode cX9_darkness 12 = .ok (.iconst 2, 1) := by decide +kernel
theorem dX9_darkness_13 : decode cX9_darkness 13 = .ok (.invokestatic 9, 3) := by decide +kernel
theorem dX9_darkness_16 : decode cX9_darkness 16 = .ok (.iadd, 1) := by decide +kernel
theorem dX9_darkness_17 : decode cX9_darkness 17 = .ok (.ireturn, 1) := by decide +kernel
theorem dX10_init_0 : decode cX10_init 0 = .ok (.aload_n 0, 1) := by decide +kernel
theorem dX10_init_1 : decode cX10_init 1 = .ok (.invokespecial 1, 3) := by decide +kernel
theorem dX10_init_4 : decode cX10_init 4 = .ok (.aload_n 0, 1) := by decide +kernel
theorem dX10_init_5 : decode cX10_init 5 = .ok (.bipush 80, 2) := by decide +kernel
theorem dX10_init_7 : decode cX10_init 7 = .ok (.newarray .int, 2) := by decide +kernel
theorem dX10_init_9 : decode cX10_init 9 = .ok (.putfield 9, 3) := by decide +kernel
theorem dX10_init_12 : decode cX10_init 12 = .ok (.return_, 1) := by decide +kernel
theorem dX10_put_0 : decode cX10_put 0 = .ok (.aload_n 0, 1) := by decide +kernel
theorem dX10_put_1 : decode cX10_put 1 = .ok (.getfield 13, 3) := by decide +kernel
theorem dX10_put_4 : decode cX10_put 4 = .ok (.bipush 80, 2) := by decide +kernel
theorem dX10_put_6 : decode cX10_put 6 = .ok (.if_icmp .lt 5, 3) := by decide +kernel
theorem dX10_put_9 : decode cX10_put 9 = .ok (.iconst 0, 1) := by decide +kernel
theorem dX10_put_10 : decode cX10_put 10 = .ok (.ireturn, 1) := by decide +kernel
theorem dX10_put_11 : decode cX10_put 11 = .ok (.aload_n 0, 1) := by decide +kernel
theorem dX10_put_12 : decode cX10_put 12 = .ok (.getfield 9, 3) := by decide +kernel
theorem dX10_put_15 : decode cX10_put 15 = .ok (.aload_n 0, 1) := by decide +kernel
theorem dX10_put_16 : decode cX10_put 16 = .ok (.dup, 1) := by decide +kernel
theorem dX10_put_17 : decode cX10_put 17 = .ok (.getfield 13, 3) := by decide +kernel
theorem dX10_put_20 : decode cX10_put 20 = .ok (.dup_x1, 1) := by decide +kernel
theorem dX10_put_21 : decode cX10_put 21 = .ok (.iconst 1, 1) := by decide +kernel
theorem dX10_put_22 : decode cX10_put 22 = .ok (.iadd, 1) := by decide +kernel
theorem dX10_put_23 : decode cX10_put 23 = .ok (.putfield 13, 3) := by decide +kernel
theorem dX10_put_26 : decode cX10_put 26 = .ok (.iload_n 1, 1) := by decide +kernel
theorem dX10_put_27 : decode cX10_put 27 = .ok (.iastore, 1) := by decide +kernel
theorem dX10_put_28 : decode cX10_put 28 = .ok (.iconst 1, 1) := by decide +kernel
theorem dX10_put_29 : decode cX10_put 29 = .ok (.ireturn, 1) := by decide +kernel
theorem dX10_at_0 : decode cX10_at 0 = .ok (.iload_n 1, 1) := by decide +kernel
theorem dX10_at_1 : decode cX10_at 1 = .ok (.ifCond .lt 20, 3) := by decide +kernel
theorem dX10_at_4 : decode cX10_at 4 = .ok (.iload_n 1, 1) := by decide +kernel
theorem dX10_at_5 : decode cX10_at 5 = .ok (.aload_n 0, 1) := by decide +kernel
theorem dX10_at_6 : decode cX10_at 6 = .ok (.getfield 13, 3) := by decide +kernel
theorem dX10_at_9 : decode cX10_at 9 = .ok (.if_icmp .ge 12, 3) := by decide +kernel
theorem dX10_at_12 : decode cX10_at 12 = .ok (.aload_n 0, 1) := by decide +kernel
theorem dX10_at_13 : decode cX10_at 13 = .ok (.getfield 9, 3) := by decide +kernel
theorem dX10_at_16 : decode cX10_at 16 = .ok (.iload_n 1, 1) := by decide +kernel
theorem dX10_at_17 : decode cX10_at 17 = .ok (.iaload, 1) := by decide +kernel
theorem dX10_at_18 : decode cX10_at 18 = .ok (.goto 4, 3) := by decide +kernel
theorem dX10_at_21 : decode cX10_at 21 = .ok (.iconst (-1), 1) := by decide +kernel
theorem dX10_at_22 : decode cX10_at 22 = .ok (.ireturn, 1) := by decide +kernel
theorem dX11_init_0 : decode cX11_init 0 = .ok (.aload_n 0, 1) := by decide +kernel
theorem dX11_init_1 : decode cX11_init 1 = .ok (.invokespecial 1, 3) := by decide +kernel
theorem dX11_init_4 : decode cX11_init 4 = .ok (.aload_n 0, 1) := by decide +kernel
theorem dX11_init_5 : decode cX11_init 5 = .ok (.new 7, 3) := by decide +kernel
theorem dX11_init_8 : decode cX11_init 8 = .ok (.dup, 1) := by decide +kernel
theorem dX11_init_9 : decode cX11_init 9 = .ok (.invokespecial 9, 3) := by decide +kernel
theorem dX11_init_12 : decode cX11_init 12 = .ok (.putfield 10, 3) := by decide +kernel
theorem dX11_init_15 : decode cX11_init 15 = .ok (.aload_n 0, 1) := by decide +kernel
theorem dX11_init_16 : decode cX11_init 16 = .ok (.new 16, 3) := by decide +kernel
theorem dX11_init_19 : decode cX11_init 19 = .ok (.dup, 1) := by decide +kernel
theorem dX11_init_20 : decode cX11_init 20 = .ok (.aload_n 0, 1) := by decide +kernel
theorem dX11_init_21 : decode cX11_init 21 = .ok (.getfield 10, 3) := by decide +kernel
theorem dX11_init_24 : decode cX11_init 24 = .ok (.invokespecial 18, 3) := by decide +kernel
theorem dX11_init_27 : decode cX11_init 27 = .ok (.putfield 21, 3) := by decide +kernel
theorem dX11_init_30 : decode cX11_init 30 = .ok (.aload_n 0, 1) := by decide +kernel
theorem dX11_init_31 : decode cX11_init 31 = .ok (.new 25, 3) := by decide +kernel
theorem dX11_init_34 : decode cX11_init 34 = .ok (.dup, 1) := by decide +kernel
theorem dX11_init_35 : decode cX11_init 35 = .ok (.invokespecial 27, 3) := by decide +kernel
theorem dX11_init_38 : decode cX11_init 38 = .ok (.putfield 28, 3) := by decide +kernel
theorem dX11_init_41 : decode cX11_init 41 = .ok (.aload_n 0, 1) := by decide +kernel
theorem dX11_init_42 : decode cX11_init 42 = .ok (.new 32, 3) := by decide +kernel
theorem dX11_init_45 : decode cX11_init 45 = .ok (.dup, 1) := by decide +kernel
theorem dX11_init_46 : decode cX11_init 46 = .ok (.invokespecial 34, 3) := by decide +kernel
theorem dX11_init_49 : decode cX11_init 49 = .ok (.putfield 35, 3) := by decide +kernel
theorem dX11_init_52 : decode cX11_init 52 = .ok (.aload_n 0, 1) := by decide +kernel
theorem dX11_init_53 : decode cX11_init 53 = .ok (.iconst 2, 1) := by decide +kernel
theorem dX11_init_54 : decode cX11_init 54 = .ok (.anewarray 25, 3) := by decide +kernel
theorem dX11_init_57 : decode cX11_init 57 = .ok (.putfield 39, 3) := by decide +kernel
theorem dX11_init_60 : decode cX11_init 60 = .ok (.iconst 0, 1) := by decide +kernel
theorem dX11_init_61 : decode cX11_init 61 = .ok (.istore_n 1, 1) := by decide +kernel
theorem dX11_init_62 : decode cX11_init 62 = .ok (.iload_n 1, 1) := by decide +kernel
theorem dX11_init_63 : decode cX11_init 63 = .ok (.iconst 2, 1) := by decide +kernel
theorem dX11_init_64 : decode cX11_init 64 = .ok (.if_icmp .ge 22, 3) := by decide +kernel
theorem dX11_init_67 : decode cX11_init 67 = .ok (.aload_n 0, 1) := by decide +kernel
theorem dX11_init_68 : decode cX11_init 68 = .ok (.getfield 39, 3) := by decide +kernel
theorem dX11_init_71 : decode cX11_init 71 = .ok (.iload_n 1, 1) := by decide +kernel
theorem dX11_init_72 : decode cX11_init 72 = .ok (.new 25, 3) := by decide +kernel
theorem dX11_init_75 : decode cX11_init 75 = .ok (.dup, 1) := by decide +kernel
theorem dX11_init_76 : decode cX11_init 76 = .ok (.invokespecial 27, 3) := by decide +kernel
theorem dX11_init_79 : decode cX11_init 79 = .ok (.aastore, 1) := by decide +kernel
theorem dX11_init_80 : decode cX11_init 80 = .ok (.iinc 1 1, 3) := by decide +kernel
theorem dX11_init_83 : decode cX11_init 83 = .ok (.goto (-21), 3) := by decide +kernel
theorem dX11_init_86 : decode cX11_init 86 = .ok (.aload_n 0, 1) := by decide +kernel
theorem dX11_init_87 : decode cX11_init 87 = .ok (.iconst 4, 1) := by decide +kernel
theorem dX11_init_88 : decode cX11_init 88 = .ok (.anewarray 43, 3) := by decide +kernel
theorem dX11_init_91 : decode cX11_init 91 = .ok (.putfield 45, 3) := by decide +kernel
theorem dX11_init_94 : decode cX11_init 94 = .ok (.iconst 0, 1) := by decide +kernel
theorem dX11_init_95 : decode cX11_init 95 = .ok (.istore_n 1, 1) := by decide +kernel
theorem dX11_init_96 : decode cX11_init 96 = .ok (.iload_n 1, 1) := by decide +kernel
theorem dX11_init_97 : decode cX11_init 97 = .ok (.iconst 4, 1) := by decide +kernel
theorem dX11_init_98 : decode cX11_init 98 = .ok (.if_icmp .ge 22, 3) := by decide +kernel
theorem dX11_init_101 : decode cX11_init 101 = .ok (.aload_n 0, 1) := by decide +kernel
theorem dX11_init_102 : decode cX11_init 102 = .ok (.getfield 45, 3) := by decide +kernel
theorem dX11_init_105 : decode cX11_init 105 = .ok (.iload_n 1, 1) := by decide +kernel
theorem dX11_init_106 : decode cX11_init 106 = .ok (.new 43, 3) := by decide +kernel
theorem dX11_init_109 : decode cX11_init 109 = .ok (.dup, 1) := by decide +kernel
theorem dX11_init_110 : decode cX11_init 110 = .ok (.invokespecial 49, 3) := by decide +kernel
theorem dX11_init_113 : decode cX11_init 113 = .ok (.aastore, 1) := by decide +kernel
theorem dX11_init_114 : decode cX11_init 114 = .ok (.iinc 1 1, 3) := by decide +kernel
theorem dX11_init_117 : decode cX11_init 117 = .ok (.goto (-21), 3) := by decide +kernel
theorem dX11_init_120 : decode cX11_init 120 = .ok (.aload_n 0, 1) := by decide +kernel
theorem dX11_init_121 : decode cX11_init 121 = .ok (.new 50, 3) := by decide +kernel
theorem dX11_init_124 : decode cX11_init 124 = .ok (.dup, 1) := by decide +kernel
theorem dX11_init_125 : decode cX11_init 125 = .ok (.invokespecial 52, 3) := by decide +kernel
theorem dX11_init_128 : decode cX11_init 128 = .ok (.putfield 53, 3) := by decide +kernel
theorem dX11_init_131 : decode cX11_init 131 = .ok (.aload_n 0, 1) := by decide +kernel
theorem dX11_init_132 : decode cX11_init 132 = .ok (.new 57, 3) := by decide +kernel
theorem dX11_init_135 : decode cX11_init 135 = .ok (.dup, 1) := by decide +kernel
theorem dX11_init_136 : decode cX11_init 136 = .ok (.invokespecial 59, 3) := by decide +kernel
theorem dX11_init_139 : decode cX11_init 139 = .ok (.putfield 60, 3) := by decide +kernel
theorem dX11_init_142 : decode cX11_init 142 = .ok (.aload_n 0, 1) := by decide +kernel
theorem dX11_init_143 : decode cX11_init 143 = .ok (.new 64, 3) := by decide +kernel
theorem dX11_init_146 : decode cX11_init 146 = .ok (.dup, 1) := by decide +kernel
theorem dX11_init_147 : decode cX11_init 147 = .ok (.invokespecial 66, 3) := by decide +kernel
theorem dX11_init_150 : decode cX11_init 150 = .ok (.putfield 67, 3) := by decide +kernel
theorem dX11_init_153 : decode cX11_init 153 = .ok (.aload_n 0, 1) := by decide +kernel
theorem dX11_init_154 : decode cX11_init 154 = .ok (.new 71, 3) := by decide +kernel
theorem dX11_init_157 : decode cX11_init 157 = .ok (.dup, 1) := by decide +kernel
theorem dX11_init_158 : decode cX11_init 158 = .ok (.invokespecial 73, 3) := by decide +kernel
theorem dX11_init_161 : decode cX11_init 161 = .ok (.putfield 74, 3) := by decide +kernel
theorem dX11_init_164 : decode cX11_init 164 = .ok (.aload_n 0, 1) := by decide +kernel
theorem dX11_init_165 : decode cX11_init 165 = .ok (.bipush 20, 2) := by decide +kernel
theorem dX11_init_167 : decode cX11_init 167 = .ok (.newarray .int, 2) := by decide +kernel
theorem dX11_init_169 : decode cX11_init 169 = .ok (.putfield 78, 3) := by decide +kernel
theorem dX11_init_172 : decode cX11_init 172 = .ok (.return_, 1) := by decide +kernel
theorem dX11_feed_0 : decode cX11_feed 0 = .ok (.iload_n 1, 1) := by decide +kernel
theorem dX11_feed_1 : decode cX11_feed 1 = .ok (.ifCond .lt 10, 3) := by decide +kernel
theorem dX11_feed_4 : decode cX11_feed 4 = .ok (.iload_n 1, 1) := by decide +kernel
theorem dX11_feed_5 : decode cX11_feed 5 = .ok (.sipush 255, 3) := by decide +kernel
theorem dX11_feed_8 : decode cX11_feed 8 = .ok (.if_icmp .le 5, 3) := by decide +kernel
theorem dX11_feed_11 : decode cX11_feed 11 = .ok (.iconst (-1), 1) := by decide +kernel
theorem dX11_feed_12 : decode cX11_feed 12 = .ok (.ireturn, 1) := by decide +kernel
theorem dX11_feed_13 : decode cX11_feed 13 = .ok (.aload_n 0, 1) := by decide +kernel
theorem dX11_feed_14 : decode cX11_feed 14 = .ok (.getfield 10, 3) := by decide +kernel
theorem dX11_feed_17 : decode cX11_feed 17 = .ok (.iload_n 1, 1) := by decide +kernel
theorem dX11_feed_18 : decode cX11_feed 18 = .ok (.invokevirtual 82, 3) := by decide +kernel
theorem dX11_feed_21 : decode cX11_feed 21 = .ok (.ifCond .eq 13, 3) := by decide +kernel
theorem dX11_feed_24 : decode cX11_feed 24 = .ok (.aload_n 0, 1) := by decide +kernel
theorem dX11_feed_25 : decode cX11_feed 25 = .ok (.getfield 10, 3) := by decide +kernel
theorem dX11_feed_28 : decode cX11_feed 28 = .ok (.getfield 86, 3) := by decide +kernel
theorem dX11_feed_31 : decode cX11_feed 31 = .ok (.goto 5, 3) := by decide +kernel
theorem dX11_feed_34 : decode cX11_feed 34 = .ok (.bipush (-3), 2) := by decide +kernel
theorem dX11_feed_36 : decode cX11_feed 36 = .ok (.ireturn, 1) := by decide +kernel
theorem dX11_cloth_0 : decode cX11_cloth 0 = .ok (.aload_n 0, 1) := by decide +kernel
theorem dX11_cloth_1 : decode cX11_cloth 1 = .ok (.getfield 21, 3) := by decide +kernel
theorem dX11_cloth_4 : decode cX11_cloth 4 = .ok (.invokevirtual 90, 3) := by decide +kernel
theorem dX11_cloth_7 : decode cX11_cloth 7 = .ok (.istore_n 1, 1) := by decide +kernel
theorem dX11_cloth_8 : decode cX11_cloth 8 = .ok (.aload_n 0, 1) := by decide +kernel
theorem dX11_cloth_9 : decode cX11_cloth 9 = .ok (.getfield 10, 3) := by decide +kernel
theorem dX11_cloth_12 : decode cX11_cloth 12 = .ok (.iconst 0, 1) := by decide +kernel
theorem dX11_cloth_13 : decode cX11_cloth 13 = .ok (.putfield 86, 3) := by decide +kernel
theorem dX11_cloth_16 : decode cX11_cloth 16 = .ok (.iload_n 1, 1) := by decide +kernel
theorem dX11_cloth_17 : decode cX11_cloth 17 = .ok (.ifCond .ne 14, 3) := by decide +kernel
theorem dX11_cloth_20 : decode cX11_cloth 20 = .ok (.bipush (-100), 2) := by decide +kernel
theorem dX11_cloth_22 : decode cX11_cloth 22 = .ok (.aload_n 0, 1) := by decide +kernel
theorem dX11_cloth_23 : decode cX11_cloth 23 = .ok (.getfield 21, 3) := by decide +kernel
theorem dX11_cloth_26 : decode cX11_cloth 26 = .ok (.getfield 94, 3) := by decide +kernel
theorem dX11_cloth_29 : decode cX11_cloth 29 = .ok (.isub, 1) := by decide +kernel
theorem dX11_cloth_30 : decode cX11_cloth 30 = .ok (.ireturn, 1) := by decide +kernel
theorem dX11_cloth_31 : decode cX11_cloth 31 = .ok (.aload_n 0, 1) := by decide +kernel
theorem dX11_cloth_32 : decode cX11_cloth 32 = .ok (.getfield 28, 3) := by decide +kernel
theorem dX11_cloth_35 : decode cX11_cloth 35 = .ok (.aload_n 0, 1) := by decide +kernel
theorem dX11_cloth_36 : decode cX11_cloth 36 = .ok (.getfield 21, 3) := by decide +kernel
theorem dX11_cloth_39 : decode cX11_cloth 39 = .ok (.getfield 97, 3) := by decide +kernel
theorem dX11_cloth_42 : decode cX11_cloth 42 = .ok (.invokevirtual 100, 3) := by decide +kernel
theorem dX11_cloth_45 : decode cX11_cloth 45 = .ok (.aload_n 0, 1) := by decide +kernel
theorem dX11_cloth_46 : decode cX11_cloth 46 = .ok (.getfield 35, 3) := by decide +kernel
theorem dX11_cloth_49 : decode cX11_cloth 49 = .ok (.invokevirtual 104, 3) := by decide +kernel
theorem dX11_cloth_52 : decode cX11_cloth 52 = .ok (.aload_n 0, 1) := by decide +kernel
theorem dX11_cloth_53 : decode cX11_cloth 53 = .ok (.getfield 28, 3) := by decide +kernel
theorem dX11_cloth_56 : decode cX11_cloth 56 = .ok (.getfield 107, 3) := by decide +kernel
theorem dX11_cloth_59 : decode cX11_cloth 59 = .ok (.ireturn, 1) := by decide +kernel
theorem dX11_square_0 : decode cX11_square 0 = .ok (.aload_n 0, 1) := by decide +kernel
theorem dX11_square_1 : decode cX11_square 1 = .ok (.getfield 28, 3) := by decide +kernel
theorem dX11_square_4 : decode cX11_square 4 = .ok (.iload_n 1, 1) := by decide +kernel
theorem dX11_square_5 : decode cX11_square 5 = .ok (.invokevirtual 110, 3) := by decide +kernel
theorem dX11_square_8 : decode cX11_square 8 = .ok (.ifCond .ne 5, 3) := by decide +kernel
theorem dX11_square_11 : decode cX11_square 11 = .ok (.iconst (-1), 1) := by decide +kernel
theorem dX11_square_12 : decode cX11_square 12 = .ok (.ireturn, 1) := by decide +kernel
theorem dX11_square_13 : decode cX11_square 13 = .ok (.aload_n 0, 1) := by decide +kernel
theorem dX11_square_14 : decode cX11_square 14 = .ok (.getfield 28, 3) := by decide +kernel
theorem dX11_square_17 : decode cX11_square 17 = .ok (.getfield 113, 3) := by decide +kernel
theorem dX11_square_20 : decode cX11_square 20 = .ok (.iload_n 1, 1) := by decide +kernel
theorem dX11_square_21 : decode cX11_square 21 = .ok (.iaload, 1) := by decide +kernel
theorem dX11_square_22 : decode cX11_square 22 = .ok (.istore_n 3, 1) := by decide +kernel
theorem dX11_square_23 : decode cX11_square 23 = .ok (.iload_n 2, 1) := by decide +kernel
theorem dX11_square_24 : decode cX11_square 24 = .ok (.tableswitch 114 0 8 #[52, 62, 72, 77, 82, 87, 105, 105, 105], 52) := by decide +kernel
theorem dX11_square_76 : decode cX11_square 76 = .ok (.aload_n 0, 1) := by decide +kernel
theorem dX11_square_77 : decode cX11_square 77 = .ok (.getfield 28, 3) := by decide +kernel
theorem dX11_square_80 : decode cX11_square 80 = .ok (.getfield 116, 3) := by decide +kernel
theorem dX11_square_83 : decode cX11_square 83 = .ok (.iload_n 1, 1) := by decide +kernel
theorem dX11_square_84 : decode cX11_square 84 = .ok (.iaload, 1) := by decide +kernel
theorem dX11_square_85 : decode cX11_square 85 = .ok (.ireturn, 1) := by decide +kernel
theorem dX11_square_86 : decode cX11_square 86 = .ok (.aload_n 0, 1) := by decide +kernel
theorem dX11_square_87 : decode cX11_square 87 = .ok (.getfield 28, 3) := by decide +kernel
theorem dX11_square_90 : decode cX11_square 90 = .ok (.getfield 119, 3) := by decide +kernel
theorem dX11_square_93 : decode cX11_square 93 = .ok (.iload_n 1, 1) := by decide +kernel
theorem dX11_square_94 : decode cX11_square 94 = .ok (.iaload, 1) := by decide +kernel
theorem dX11_square_95 : decode cX11_square 95 = .ok (.ireturn, 1) := by decide +kernel
theorem dX11_square_96 : decode cX11_square 96 = .ok (.iload_n 3, 1) := by decide +kernel
theorem dX11_square_97 : decode cX11_square 97 = .ok (.invokestatic 122, 3) := by decide +kernel
theorem dX11_square_100 : decode cX11_square 100 = .ok (.ireturn, 1) := by decide +kernel
theorem dX11_square_101 : decode cX11_square 101 = .ok (.iload_n 3, 1) := by decide +kernel
theorem dX11_square_102 : decode cX11_square 102 = .ok (.invokestatic 128, 3) := by decide +kernel
theorem dX11_square_105 : decode cX11_square 105 = .ok (.ireturn, 1) := by decide +kernel
theorem dX11_square_106 : decode cX11_square 106 = .ok (.iload_n 3, 1) := by decide +kernel
theorem dX11_square_107 : decode cX11_square 107 = .ok (.invokestatic 131, 3) := by decide +kernel
theorem dX11_square_110 : decode cX11_square 110 = .ok (.ireturn, 1) := by decide +kernel
theorem dX11_square_111 : decode cX11_square 111 = .ok (.aload_n 0, 1) := by decide +kernel
theorem dX11_square_112 : decode cX11_square 112 = .ok (.getfield 28, 3) := by decide +kernel
theorem dX11_square_115 : decode cX11_square 115 = .ok (.iload_n 1, 1) := by decide +kernel
theorem dX11_square_116 : decode cX11_square 116 = .ok (.iload_n 3, 1) := by decide +kernel
theorem dX11_square_117 : decode cX11_square 117 = .ok (.invokevirtual 134, 3) := by decide +kernel
theorem dX11_square_120 : decode cX11_square 120 = .ok (.ifCond .eq 7, 3) := by decide +kernel
theorem dX11_square_123 : decode cX11_square 123 = .ok (.iconst 1, 1) := by decide +kernel
theorem dX11_square_124 : decode cX11_square 124 = .ok (.goto 4, 3) := by decide +kernel
theorem dX11_square_127 : decode cX11_square 127 = .ok (.iconst 0, 1) := by decide +kernel
theorem dX11_square_128 : decode cX11_square 128 = .ok (.ireturn, 1) := by decide +kernel
theorem dX11_square_129 : decode cX11_square 129 = .ok (.iload_n 3, 1) := by decide +kernel
theorem dX11_square_130 : decode cX11_square 130 = .ok (.iload_n 2, 1) := by decide +kernel
theorem dX11_square_131 : decode cX11_square 131 = .ok (.bipush 6, 2) := by decide +kernel
theorem dX11_square_133 : decode cX11_square 133 = .ok (.isub, 1) := by decide +kernel
theorem dX11_square_134 : decode cX11_square 134 = .ok (.invokestatic 138, 3) := by decide +kernel
theorem dX11_square_137 : decode cX11_square 137 = .ok (.ireturn, 1) := by decide +kernel
theorem dX11_square_138 : decode cX11_square 138 = .ok (.iconst (-1), 1) := by decide +kernel
theorem dX11_square_139 : decode cX11_square 139 = .ok (.ireturn, 1) := by decide +kernel
theorem dX11_as_0 : decode cX11_as 0 = .ok (.aload_n 0, 1) := by decide +kernel
theorem dX11_as_1 : decode cX11_as 1 = .ok (.getfield 28, 3) := by decide +kernel
theorem dX11_as_4 : decode cX11_as 4 = .ok (.iload_n 1, 1) := by decide +kernel
theorem dX11_as_5 : decode cX11_as 5 = .ok (.invokevirtual 110, 3) := by decide +kernel
theorem dX11_as_8 : decode cX11_as 8 = .ok (.ifCond .eq 12, 3) := by decide +kernel
theorem dX11_as_11 : decode cX11_as 11 = .ok (.iload_n 2, 1) := by decide +kernel
theorem dX11_as_12 : decode cX11_as 12 = .ok (.ifCond .lt 8, 3) := by decide +kernel
theorem dX11_as_15 : decode cX11_as 15 = .ok (.iload_n 2, 1) := by decide +kernel
theorem dX11_as_16 : decode cX11_as 16 = .ok (.iconst 5, 1) := by decide +kernel
theorem dX11_as_17 : decode cX11_as 17 = .ok (.if_icmp .le 5, 3) := by decide +kernel
theorem dX11_as_20 : decode cX11_as 20 = .ok (.iconst (-1), 1) := by decide +kernel
theorem dX11_as_21 : decode cX11_as 21 = .ok (.ireturn, 1) := by decide +kernel
theorem dX11_as_22 : decode cX11_as 22 = .ok (.aload_n 0, 1) := by decide +kernel
theorem dX11_as_23 : decode cX11_as 23 = .ok (.getfield 28, 3) := by decide +kernel
theorem dX11_as_26 : decode cX11_as 26 = .ok (.getfield 116, 3) := by decide +kernel
theorem dX11_as_29 : decode cX11_as 29 = .ok (.iload_n 1, 1) := by decide +kernel
theorem dX11_as_30 : decode cX11_as 30 = .ok (.iaload, 1) := by decide +kernel
theorem dX11_as_31 : decode cX11_as 31 = .ok (.iload_n 2, 1) := by decide +kernel
theorem dX11_as_32 : decode cX11_as 32 = .ok (.invokestatic 144, 3) := by decide +kernel
theorem dX11_as_35 : decode cX11_as 35 = .ok (.ifCond .eq 7, 3) := by decide +kernel
theorem dX11_as_38 : decode cX11_as 38 = .ok (.iload_n 1, 1) := by decide +kernel
theorem dX11_as_39 : decode cX11_as 39 = .ok (.goto 5, 3) := by decide +kernel
theorem dX11_as_42 : decode cX11_as 42 = .ok (.bipush (-12), 2) := by decide +kernel
theorem dX11_as_44 : decode cX11_as 44 = .ok (.ireturn, 1) := by decide +kernel
theorem dX11_dye_0 : decode cX11_dye 0 = .ok (.aload_n 0, 1) := by decide +kernel
theorem dX11_dye_1 : decode cX11_dye 1 = .ok (.getfield 28, 3) := by decide +kernel
theorem dX11_dye_4 : decode cX11_dye 4 = .ok (.iload_n 1, 1) := by decide +kernel
theorem dX11_dye_5 : decode cX11_dye 5 = .ok (.invokevirtual 147, 3) := by decide +kernel
theorem dX11_dye_8 : decode cX11_dye 8 = .ok (.ifCond .eq 10, 3) := by decide +kernel
theorem dX11_dye_11 : decode cX11_dye 11 = .ok (.iload_n 2, 1) := by decide +kernel
theorem dX11_dye_12 : decode cX11_dye 12 = .ok (.invokestatic 150, 3) := by decide +kernel
theorem dX11_dye_15 : decode cX11_dye 15 = .ok (.ifCond .ne 5, 3) := by decide +kernel
theorem dX11_dye_18 : decode cX11_dye 18 = .ok (.iconst (-1), 1) := by decide +kernel
theorem dX11_dye_19 : decode cX11_dye 19 = .ok (.ireturn, 1) := by decide +kernel
theorem dX11_dye_20 : decode cX11_dye 20 = .ok (.aload_n 0, 1) := by decide +kernel
theorem dX11_dye_21 : decode cX11_dye 21 = .ok (.getfield 28, 3) := by decide +kernel
theorem dX11_dye_24 : decode cX11_dye 24 = .ok (.iload_n 1, 1) := by decide +kernel
theorem dX11_dye_25 : decode cX11_dye 25 = .ok (.iload_n 2, 1) := by decide +kernel
theorem dX11_dye_26 : decode cX11_dye 26 = .ok (.invokevirtual 153, 3) := by decide +kernel
theorem dX11_dye_29 : decode cX11_dye 29 = .ok (.ireturn, 1) := by decide +kernel
theorem dX11_stencil_0 : decode cX11_stencil 0 = .ok (.aload_n 0, 1) := by decide +kernel
theorem dX11_stencil_1 : decode cX11_stencil 1 = .ok (.getfield 28, 3) := by decide +kernel
theorem dX11_stencil_4 : decode cX11_stencil 4 = .ok (.iload_n 1, 1) := by decide +kernel
theorem dX11_stencil_5 : decode cX11_stencil 5 = .ok (.invokevirtual 156, 3) := by decide +kernel
theorem dX11_stencil_8 : decode cX11_stencil 8 = .ok (.ifCond .eq 15, 3) := by decide +kernel
theorem dX11_stencil_11 : decode cX11_stencil 11 = .ok (.aload_n 0, 1) := by decide +kernel
theorem dX11_stencil_12 : decode cX11_stencil 12 = .ok (.getfield 28, 3) := by decide +kernel
theorem dX11_stencil_15 : decode cX11_stencil 15 = .ok (.getfield 159, 3) := by decide +kernel
theorem dX11_stencil_18 : decode cX11_stencil 18 = .ok (.iload_n 1, 1) := by decide +kernel
theorem dX11_stencil_19 : decode cX11_stencil 19 = .ok (.iaload, 1) := by decide +kernel
theorem dX11_stencil_20 : decode cX11_stencil 20 = .ok (.goto 4, 3) := by decide +kernel
theorem dX11_stencil_23 : decode cX11_stencil 23 = .ok (.iconst (-1), 1) := by decide +kernel
theorem dX11_stencil_24 : decode cX11_stencil 24 = .ok (.ireturn, 1) := by decide +kernel
theorem dX11_takes_0 : decode cX11_takes 0 = .ok (.aload_n 0, 1) := by decide +kernel
theorem dX11_takes_1 : decode cX11_takes 1 = .ok (.getfield 28, 3) := by decide +kernel
theorem dX11_takes_4 : decode cX11_takes 4 = .ok (.iload_n 1, 1) := by decide +kernel
theorem dX11_takes_5 : decode cX11_takes 5 = .ok (.invokevirtual 110, 3) := by decide +kernel
theorem dX11_takes_8 : decode cX11_takes 8 = .ok (.ifCond .eq 21, 3) := by decide +kernel
theorem dX11_takes_11 : decode cX11_takes 11 = .ok (.aload_n 0, 1) := by decide +kernel
theorem dX11_takes_12 : decode cX11_takes 12 = .ok (.getfield 28, 3) := by decide +kernel
theorem dX11_takes_15 : decode cX11_takes 15 = .ok (.iload_n 2, 1) := by decide +kernel
theorem dX11_takes_16 : decode cX11_takes 16 = .ok (.invokevirtual 147, 3) := by decide +kernel
theorem dX11_takes_19 : decode cX11_takes 19 = .ok (.ifCond .eq 10, 3) := by decide +kernel
theorem dX11_takes_22 : decode cX11_takes 22 = .ok (.iload_n 3, 1) := by decide +kernel
theorem dX11_takes_23 : decode cX11_takes 23 = .ok (.invokestatic 150, 3) := by decide +kernel
theorem dX11_takes_26 : decode cX11_takes 26 = .ok (.ifCond .ne 5, 3) := by decide +kernel
theorem dX11_takes_29 : decode cX11_takes 29 = .ok (.iconst (-1), 1) := by decide +kernel
theorem dX11_takes_30 : decode cX11_takes 30 = .ok (.ireturn, 1) := by decide +kernel
theorem dX11_takes_31 : decode cX11_takes 31 = .ok (.aload_n 0, 1) := by decide +kernel
theorem dX11_takes_32 : decode cX11_takes 32 = .ok (.getfield 28, 3) := by decide +kernel
theorem dX11_takes_35 : decode cX11_takes 35 = .ok (.getfield 113, 3) := by decide +kernel
theorem dX11_takes_38 : decode cX11_takes 38 = .ok (.iload_n 1, 1) := by decide +kernel
theorem dX11_takes_39 : decode cX11_takes 39 = .ok (.iaload, 1) := by decide +kernel
theorem dX11_takes_40 : decode cX11_takes 40 = .ok (.istore 4, 2) := by decide +kernel
theorem dX11_takes_42 : decode cX11_takes 42 = .ok (.iload 4, 2) := by decide +kernel
theorem dX11_takes_44 : decode cX11_takes 44 = .ok (.invokestatic 122, 3) := by decide +kernel
theorem dX11_takes_47 : decode cX11_takes 47 = .ok (.ifCond .le 7, 3) := by decide +kernel
theorem dX11_takes_50 : decode cX11_takes 50 = .ok (.iconst 0, 1) := by decide +kernel
theorem dX11_takes_51 : decode cX11_takes 51 = .ok (.goto 15, 3) := by decide +kernel
theorem dX11_takes_54 : decode cX11_takes 54 = .ok (.aload_n 0, 1) := by decide +kernel
theorem dX11_takes_55 : decode cX11_takes 55 = .ok (.getfield 28, 3) := by decide +kernel
theorem dX11_takes_58 : decode cX11_takes 58 = .ok (.iload_n 1, 1) := by decide +kernel
theorem dX11_takes_59 : decode cX11_takes 59 = .ok (.iload 4, 2) := by decide +kernel
theorem dX11_takes_61 : decode cX11_takes 61 = .ok (.iload_n 2, 1) := by decide +kernel
theorem dX11_takes_62 : decode cX11_takes 62 = .ok (.iload_n 3, 1) := by decide +kernel
theorem dX11_takes_63 : decode cX11_takes 63 = .ok (.invokevirtual 162, 3) := by decide +kernel
theorem dX11_takes_66 : decode cX11_takes 66 = .ok (.ireturn, 1) := by decide +kernel
theorem dX11_does_0 : decode cX11_does 0 = .ok (.aload_n 0, 1) := by decide +kernel
theorem dX11_does_1 : decode cX11_does 1 = .ok (.getfield 28, 3) := by decide +kernel
theorem dX11_does_4 : decode cX11_does 4 = .ok (.iload_n 1, 1) := by decide +kernel
theorem dX11_does_5 : decode cX11_does 5 = .ok (.i2l, 1) := by decide +kernel
theorem dX11_does_6 : decode cX11_does 6 = .ok (.invokevirtual 166, 3) := by decide +kernel
theorem dX11_does_9 : decode cX11_does 9 = .ok (.ifCond .ne 5, 3) := by decide +kernel
theorem dX11_does_12 : decode cX11_does 12 = .ok (.iconst (-1), 1) := by decide +kernel
theorem dX11_does_13 : decode cX11_does 13 = .ok (.ireturn, 1) := by decide +kernel
theorem dX11_does_14 : decode cX11_does 14 = .ok (.aload_n 0, 1) := by decide +kernel
theorem dX11_does_15 : decode cX11_does 15 = .ok (.getfield 28, 3) := by decide +kernel
theorem dX11_does_18 : decode cX11_does 18 = .ok (.getfield 170, 3) := by decide +kernel
theorem dX11_does_21 : decode cX11_does 21 = .ok (.sipush 9999, 3) := by decide +kernel
theorem dX11_does_24 : decode cX11_does 24 = .ok (.if_icmp .lt 6, 3) := by decide +kernel
theorem dX11_does_27 : decode cX11_does 27 = .ok (.bipush (-3), 2) := by decide +kernel
theorem dX11_does_29 : decode cX11_does 29 = .ok (.ireturn, 1) := by decide +kernel
theorem dX11_does_30 : decode cX11_does 30 = .ok (.aload_n 0, 1) := by decide +kernel
theorem dX11_does_31 : decode cX11_does 31 = .ok (.getfield 35, 3) := by decide +kernel
theorem dX11_does_34 : decode cX11_does 34 = .ok (.aload_n 0, 1) := by decide +kernel
theorem dX11_does_35 : decode cX11_does 35 = .ok (.getfield 28, 3) := by decide +kernel
theorem dX11_does_38 : decode cX11_does 38 = .ok (.getfield 113, 3) := by decide +kernel
theorem dX11_does_41 : decode cX11_does 41 = .ok (.invokevirtual 173, 3) := by decide +kernel
theorem dX11_does_44 : decode cX11_does 44 = .ok (.aload_n 0, 1) := by decide +kernel
theorem dX11_does_45 : decode cX11_does 45 = .ok (.getfield 28, 3) := by decide +kernel
theorem dX11_does_48 : decode cX11_does 48 = .ok (.iload_n 1, 1) := by decide +kernel
theorem dX11_does_49 : decode cX11_does 49 = .ok (.aload_n 0, 1) := by decide +kernel
theorem dX11_does_50 : decode cX11_does 50 = .ok (.getfield 28, 3) := by decide +kernel
theorem dX11_does_53 : decode cX11_does 53 = .ok (.getfield 113, 3) := by decide +kernel
theorem dX11_does_56 : decode cX11_does 56 = .ok (.aload_n 0, 1) := by decide +kernel
theorem dX11_does_57 : decode cX11_does 57 = .ok (.getfield 28, 3) := by decide +kernel
theorem dX11_does_60 : decode cX11_does 60 = .ok (.getfield 113, 3) := by decide +kernel
theorem dX11_does_63 : decode cX11_does 63 = .ok (.invokevirtual 177, 3) := by decide +kernel
theorem dX11_does_66 : decode cX11_does 66 = .ok (.pop, 1) := by decide +kernel
theorem dX11_does_67 : decode cX11_does 67 = .ok (.aload_n 0, 1) := by decide +kernel
theorem dX11_does_68 : decode cX11_does 68 = .ok (.getfield 28, 3) := by decide +kernel
theorem dX11_does_71 : decode cX11_does 71 = .ok (.dup, 1) := by decide +kernel
theorem dX11_does_72 : decode cX11_does 72 = .ok (.getfield 170, 3) := by decide +kernel
theorem dX11_does_75 : decode cX11_does 75 = .ok (.iconst 1, 1) := by decide +kernel
theorem dX11_does_76 : decode cX11_does 76 = .ok (.iadd, 1) := by decide +kernel
theorem dX11_does_77 : decode cX11_does 77 = .ok (.putfield 170, 3) := by decide +kernel
theorem dX11_does_80 : decode cX11_does 80 = .ok (.aload_n 0, 1) := by decide +kernel
theorem dX11_does_81 : decode cX11_does 81 = .ok (.getfield 28, 3) := by decide +kernel
theorem dX11_does_84 : decode cX11_does 84 = .ok (.aload_n 0, 1) := by decide +kernel
theorem dX11_does_85 : decode cX11_does 85 = .ok (.getfield 28, 3) := by decide +kernel
theorem dX11_does_88 : decode cX11_does 88 = .ok (.getfield 113, 3) := by decide +kernel
theorem dX11_does_91 : decode cX11_does 91 = .ok (.invokevirtual 181, 3) := by decide +kernel
theorem dX11_does_94 : decode cX11_does 94 = .ok (.ireturn, 1) := by decide +kernel
theorem dX11_undo_0 : decode cX11_undo 0 = .ok (.aload_n 0, 1) := by decide +kernel
theorem dX11_undo_1 : decode cX11_undo 1 = .ok (.getfield 35, 3) := by decide +kernel
theorem dX11_undo_4 : decode cX11_undo 4 = .ok (.aload_n 0, 1) := by decide +kernel
theorem dX11_undo_5 : decode cX11_undo 5 = .ok (.getfield 28, 3) := by decide +kernel
theorem dX11_undo_8 : decode cX11_undo 8 = .ok (.getfield 113, 3) := by decide +kernel
theorem dX11_undo_11 : decode cX11_undo 11 = .ok (.invokevirtual 185, 3) := by decide +kernel
theorem dX11_undo_14 : decode cX11_undo 14 = .ok (.ifCond .ne 6, 3) := by decide +kernel
theorem dX11_undo_17 : decode cX11_undo 17 = .ok (.bipush (-4), 2) := by decide +kernel
theorem dX11_undo_19 : decode cX11_undo 19 = .ok (.ireturn, 1) := by decide +kernel
theorem dX11_undo_20 : decode cX11_undo 20 = .ok (.aload_n 0, 1) := by decide +kernel
theorem dX11_undo_21 : decode cX11_undo 21 = .ok (.getfield 28, 3) := by decide +kernel
theorem dX11_undo_24 : decode cX11_undo 24 = .ok (.dup, 1) := by decide +kernel
theorem dX11_undo_25 : decode cX11_undo 25 = .ok (.getfield 170, 3) := by decide +kernel
theorem dX11_undo_28 : decode cX11_undo 28 = .ok (.iconst 1, 1) := by decide +kernel
theorem dX11_undo_29 : decode cX11_undo 29 = .ok (.isub, 1) := by decide +kernel
theorem dX11_undo_30 : decode cX11_undo 30 = .ok (.putfield 170, 3) := by decide +kernel
theorem dX11_undo_33 : decode cX11_undo 33 = .ok (.aload_n 0, 1) := by decide +kernel
theorem dX11_undo_34 : decode cX11_undo 34 = .ok (.getfield 35, 3) := by decide +kernel
theorem dX11_undo_37 : decode cX11_undo 37 = .ok (.getfield 189, 3) := by decide +kernel
theorem dX11_undo_40 : decode cX11_undo 40 = .ok (.ireturn, 1) := by decide +kernel
theorem dX11_wish_0 : decode cX11_wish 0 = .ok (.aload_n 0, 1) := by decide +kernel
theorem dX11_wish_1 : decode cX11_wish 1 = .ok (.getfield 28, 3) := by decide +kernel
theorem dX11_wish_4 : decode cX11_wish 4 = .ok (.iload_n 1, 1) := by decide +kernel
theorem dX11_wish_5 : decode cX11_wish 5 = .ok (.invokevirtual 110, 3) := by decide +kernel
theorem dX11_wish_8 : decode cX11_wish 8 = .ok (.ifCond .eq 13, 3) := by decide +kernel
theorem dX11_wish_11 : decode cX11_wish 11 = .ok (.iload_n 2, 1) := by decide +kernel
theorem dX11_wish_12 : decode cX11_wish 12 = .ok (.ifCond .lt 9, 3) := by decide +kernel
theorem dX11_wish_15 : decode cX11_wish 15 = .ok (.iload_n 2, 1) := by decide +kernel
theorem dX11_wish_16 : decode cX11_wish 16 = .ok (.bipush 7, 2) := by decide +kernel
theorem dX11_wish_18 : decode cX11_wish 18 = .ok (.if_icmp .le 5, 3) := by decide +kernel
theorem dX11_wish_21 : decode cX11_wish 21 = .ok (.iconst (-1), 1) := by decide +kernel
theorem dX11_wish_22 : decode cX11_wish 22 = .ok (.ireturn, 1) := by decide +kernel
theorem dX11_wish_23 : decode cX11_wish 23 = .ok (.aload_n 0, 1) := by decide +kernel
theorem dX11_wish_24 : decode cX11_wish 24 = .ok (.getfield 28, 3) := by decide +kernel
theorem dX11_wish_27 : decode cX11_wish 27 = .ok (.getfield 119, 3) := by decide +kernel
theorem dX11_wish_30 : decode cX11_wish 30 = .ok (.iload_n 1, 1) := by decide +kernel
theorem dX11_wish_31 : decode cX11_wish 31 = .ok (.iaload, 1) := by decide +kernel
theorem dX11_wish_32 : decode cX11_wish 32 = .ok (.istore_n 3, 1) := by decide +kernel
theorem dX11_wish_33 : decode cX11_wish 33 = .ok (.aload_n 0, 1) := by decide +kernel
theorem dX11_wish_34 : decode cX11_wish 34 = .ok (.getfield 28, 3) := by decide +kernel
theorem dX11_wish_37 : decode cX11_wish 37 = .ok (.getfield 119, 3) := by decide +kernel
theorem dX11_wish_40 : decode cX11_wish 40 = .ok (.iload_n 1, 1) := by decide +kernel
theorem dX11_wish_41 : decode cX11_wish 41 = .ok (.iload_n 2, 1) := by decide +kernel
theorem dX11_wish_42 : decode cX11_wish 42 = .ok (.iastore, 1) := by decide +kernel
theorem dX11_wish_43 : decode cX11_wish 43 = .ok (.iload_n 3, 1) := by decide +kernel
theorem dX11_wish_44 : decode cX11_wish 44 = .ok (.ireturn, 1) := by decide +kernel
theorem dX11_image_0 : decode cX11_image 0 = .ok (.iload_n 1, 1) := by decide +kernel
theorem dX11_image_1 : decode cX11_image 1 = .ok (.ifCond .lt 8, 3) := by decide +kernel
theorem dX11_image_4 : decode cX11_image 4 = .ok (.iload_n 1, 1) := by decide +kernel
theorem dX11_image_5 : decode cX11_image 5 = .ok (.iconst 2, 1) := by decide +kernel
theorem dX11_image_6 : decode cX11_image 6 = .ok (.if_icmp .lt 5, 3) := by decide +kernel
theorem dX11_image_9 : decode cX11_image 9 = .ok (.iconst (-1), 1) := by decide +kernel
theorem dX11_image_10 : decode cX11_image 10 = .ok (.ireturn, 1) := by decide +kernel
theorem dX11_image_11 : decode cX11_image 11 = .ok (.aload_n 0, 1) := by decide +kernel
theorem dX11_image_12 : decode cX11_image 12 = .ok (.getfield 28, 3) := by decide +kernel
theorem dX11_image_15 : decode cX11_image 15 = .ok (.invokevirtual 192, 3) := by decide +kernel
theorem dX11_image_18 : decode cX11_image 18 = .ok (.ifCond .ne 6, 3) := by decide +kernel
theorem dX11_image_21 : decode cX11_image 21 = .ok (.bipush (-2), 2) := by decide +kernel
theorem dX11_image_23 : decode cX11_image 23 = .ok (.ireturn, 1) := by decide +kernel
theorem dX11_image_24 : decode cX11_image 24 = .ok (.aload_n 0, 1) := by decide +kernel
theorem dX11_image_25 : decode cX11_image 25 = .ok (.getfield 39, 3) := by decide +kernel
theorem dX11_image_28 : decode cX11_image 28 = .ok (.iload_n 1, 1) := by decide +kernel
theorem dX11_image_29 : decode cX11_image 29 = .ok (.aaload, 1) := by decide +kernel
theorem dX11_image_30 : decode cX11_image 30 = .ok (.aload_n 0, 1) := by decide +kernel
theorem dX11_image_31 : decode cX11_image 31 = .ok (.getfield 28, 3) := by decide +kernel
theorem dX11_image_34 : decode cX11_image 34 = .ok (.invokevirtual 100, 3) := by decide +kernel
theorem dX11_image_37 : decode cX11_image 37 = .ok (.aload_n 0, 1) := by decide +kernel
theorem dX11_image_38 : decode cX11_image 38 = .ok (.getfield 28, 3) := by decide +kernel
theorem dX11_image_41 : decode cX11_image 41 = .ok (.getfield 170, 3) := by decide +kernel
theorem dX11_image_44 : decode cX11_image 44 = .ok (.ireturn, 1) := by decide +kernel
theorem dX11_restore_0 : decode cX11_restore 0 = .ok (.iload_n 1, 1) := by decide +kernel
theorem dX11_restore_1 : decode cX11_restore 1 = .ok (.ifCond .lt 8, 3) := by decide +kernel
theorem dX11_restore_4 : decode cX11_restore 4 = .ok (.iload_n 1, 1) := by decide +kernel
theorem dX11_restore_5 : decode cX11_restore 5 = .ok (.iconst 2, 1) := by decide +kernel
theorem dX11_restore_6 : decode cX11_restore 6 = .ok (.if_icmp .lt 5, 3) := by decide +kernel
theorem dX11_restore_9 : decode cX11_restore 9 = .ok (.iconst (-1), 1) := by decide +kernel
theorem dX11_restore_10 : decode cX11_restore 10 = .ok (.ireturn, 1) := by decide +kernel
theorem dX11_restore_11 : decode cX11_restore 11 = .ok (.aload_n 0, 1) := by decide +kernel
theorem dX11_restore_12 : decode cX11_restore 12 = .ok (.getfield 39, 3) := by decide +kernel
theorem dX11_restore_15 : decode cX11_restore 15 = .ok (.iload_n 1, 1) := by decide +kernel
theorem dX11_restore_16 : decode cX11_restore 16 = .ok (.aaload, 1) := by decide +kernel
theorem dX11_restore_17 : decode cX11_restore 17 = .ok (.invokevirtual 192, 3) := by decide +kernel
theorem dX11_restore_20 : decode cX11_restore 20 = .ok (.ifCond .ne 6, 3) := by decide +kernel
theorem dX11_restore_23 : decode cX11_restore 23 = .ok (.bipush (-2), 2) := by decide +kernel
theorem dX11_restore_25 : decode cX11_restore 25 = .ok (.ireturn, 1) := by decide +kernel
theorem dX11_restore_26 : decode cX11_restore 26 = .ok (.aload_n 0, 1) := by decide +kernel
theorem dX11_restore_27 : decode cX11_restore 27 = .ok (.getfield 28, 3) := by decide +kernel
theorem dX11_restore_30 : decode cX11_restore 30 = .ok (.aload_n 0, 1) := by decide +kernel
theorem dX11_restore_31 : decode cX11_restore 31 = .ok (.getfield 39, 3) := by decide +kernel
theorem dX11_restore_34 : decode cX11_restore 34 = .ok (.iload_n 1, 1) := by decide +kernel
theorem dX11_restore_35 : decode cX11_restore 35 = .ok (.aaload, 1) := by decide +kernel
theorem dX11_restore_36 : decode cX11_restore 36 = .ok (.invokevirtual 100, 3) := by decide +kernel
theorem dX11_restore_39 : decode cX11_restore 39 = .ok (.aload_n 0, 1) := by decide +kernel
theorem dX11_restore_40 : decode cX11_restore 40 = .ok (.getfield 35, 3) := by decide +kernel
theorem dX11_restore_43 : decode cX11_restore 43 = .ok (.invokevirtual 104, 3) := by decide +kernel
theorem dX11_restore_46 : decode cX11_restore 46 = .ok (.aload_n 0, 1) := by decide +kernel
theorem dX11_restore_47 : decode cX11_restore 47 = .ok (.getfield 28, 3) := by decide +kernel
theorem dX11_restore_50 : decode cX11_restore 50 = .ok (.getfield 170, 3) := by decide +kernel
theorem dX11_restore_53 : decode cX11_restore 53 = .ok (.ireturn, 1) := by decide +kernel
theorem dX11_plan_0 : decode cX11_plan 0 = .ok (.iload_n 1, 1) := by decide +kernel
theorem dX11_plan_1 : decode cX11_plan 1 = .ok (.ifCond .lt 14, 3) := by decide +kernel
theorem dX11_plan_4 : decode cX11_plan 4 = .ok (.iload_n 1, 1) := by decide +kernel
theorem dX11_plan_5 : decode cX11_plan 5 = .ok (.iconst 4, 1) := by decide +kernel
theorem dX11_plan_6 : decode cX11_plan 6 = .ok (.if_icmp .gt 9, 3) := by decide +kernel
theorem dX11_plan_9 : decode cX11_plan 9 = .ok (.iload_n 2, 1) := by decide +kernel
theorem dX11_plan_10 : decode cX11_plan 10 = .ok (.bipush (-2), 2) := by decide +kernel
theorem dX11_plan_12 : decode cX11_plan 12 = .ok (.if_icmp .ge 5, 3) := by decide +kernel
theorem dX11_plan_15 : decode cX11_plan 15 = .ok (.iconst (-1), 1) := by decide +kernel
theorem dX11_plan_16 : decode cX11_plan 16 = .ok (.ireturn, 1) := by decide +kernel
theorem dX11_plan_17 : decode cX11_plan 17 = .ok (.aload_n 0, 1) := by decide +kernel
theorem dX11_plan_18 : decode cX11_plan 18 = .ok (.getfield 28, 3) := by decide +kernel
theorem dX11_plan_21 : decode cX11_plan 21 = .ok (.invokevirtual 192, 3) := by decide +kernel
theorem dX11_plan_24 : decode cX11_plan 24 = .ok (.ifCond .ne 6, 3) := by decide +kernel
theorem dX11_plan_27 : decode cX11_plan 27 = .ok (.bipush (-2), 2) := by decide +kernel
theorem dX11_plan_29 : decode cX11_plan 29 = .ok (.ireturn, 1) := by decide +kernel
theorem dX11_plan_30 : decode cX11_plan 30 = .ok (.aload_n 0, 1) := by decide +kernel
theorem dX11_plan_31 : decode cX11_plan 31 = .ok (.getfield 53, 3) := by decide +kernel
theorem dX11_plan_34 : decode cX11_plan 34 = .ok (.aload_n 0, 1) := by decide +kernel
theorem dX11_plan_35 : decode cX11_plan 35 = .ok (.getfield 28, 3) := by decide +kernel
theorem dX11_plan_38 : decode cX11_plan 38 = .ok (.iload_n 1, 1) := by decide +kernel
theorem dX11_plan_39 : decode cX11_plan 39 = .ok (.invokevirtual 195, 3) := by decide +kernel
theorem dX11_plan_42 : decode cX11_plan 42 = .ok (.iload_n 2, 1) := by decide +kernel
theorem dX11_plan_43 : decode cX11_plan 43 = .ok (.bipush (-2), 2) := by decide +kernel
theorem dX11_plan_45 : decode cX11_plan 45 = .ok (.if_icmp .ne 11, 3) := by decide +kernel
theorem dX11_plan_48 : decode cX11_plan 48 = .ok (.aload_n 0, 1) := by decide +kernel
theorem dX11_plan_49 : decode cX11_plan 49 = .ok (.getfield 53, 3) := by decide +kernel
theorem dX11_plan_52 : decode cX11_plan 52 = .ok (.getfield 199, 3) := by decide +kernel
theorem dX11_plan_55 : decode cX11_plan 55 = .ok (.ireturn, 1) := by decide +kernel
theorem dX11_plan_56 : decode cX11_plan 56 = .ok (.iload_n 2, 1) := by decide +kernel
theorem dX11_plan_57 : decode cX11_plan 57 = .ok (.iconst (-1), 1) := by decide +kernel
theorem dX11_plan_58 : decode cX11_plan 58 = .ok (.if_icmp .ne 11, 3) := by decide +kernel
theorem dX11_plan_61 : decode cX11_plan 61 = .ok (.aload_n 0, 1) := by decide +kernel
theorem dX11_plan_62 : decode cX11_plan 62 = .ok (.getfield 53, 3) := by decide +kernel
theorem dX11_plan_65 : decode cX11_plan 65 = .ok (.getfield 202, 3) := by decide +kernel
theorem dX11_plan_68 : decode cX11_plan 68 = .ok (.ireturn, 1) := by decide +kernel
theorem dX11_plan_69 : decode cX11_plan 69 = .ok (.iload_n 2, 1) := by decide +kernel
theorem dX11_plan_70 : decode cX11_plan 70 = .ok (.aload_n 0, 1) := by decide +kernel
theorem dX11_plan_71 : decode cX11_plan 71 = .ok (.getfield 53, 3) := by decide +kernel
theorem dX11_plan_74 : decode cX11_plan 74 = .ok (.getfield 202, 3) := by decide +kernel
theorem dX11_plan_77 : decode cX11_plan 77 = .ok (.if_icmp .ge 15, 3) := by decide +kernel
theorem dX11_plan_80 : decode cX11_plan 80 = .ok (.aload_n 0, 1) := by decide +kernel
theorem dX11_plan_81 : decode cX11_plan 81 = .ok (.getfield 53, 3) := by decide +kernel
theorem dX11_plan_84 : decode cX11_plan 84 = .ok (.getfield 205, 3) := by decide +kernel
theorem dX11_plan_87 : decode cX11_plan 87 = .ok (.iload_n 2, 1) := by decide +kernel
theorem dX11_plan_88 : decode cX11_plan 88 = .ok (.iaload, 1) := by decide +kernel
theorem dX11_plan_89 : decode cX11_plan 89 = .ok (.goto 5, 3) := by decide +kernel
theorem dX11_plan_92 : decode cX11_plan 92 = .ok (.bipush (-4), 2) := by decide +kernel
theorem dX11_plan_94 : decode cX11_plan 94 = .ok (.ireturn, 1) := by decide +kernel
theorem dX11_rows_0 : decode cX11_rows 0 = .ok (.aload_n 0, 1) := by decide +kernel
theorem dX11_rows_1 : decode cX11_rows 1 = .ok (.getfield 28, 3) := by decide +kernel
theorem dX11_rows_4 : decode cX11_rows 4 = .ok (.iload_n 1, 1) := by decide +kernel
theorem dX11_rows_5 : decode cX11_rows 5 = .ok (.invokevirtual 110, 3) := by decide +kernel
theorem dX11_rows_8 : decode cX11_rows 8 = .ok (.ifCond .eq 20, 3) := by decide +kernel
theorem dX11_rows_11 : decode cX11_rows 11 = .ok (.iload 5, 2) := by decide +kernel
theorem dX11_rows_13 : decode cX11_rows 13 = .ok (.ifCond .lt 15, 3) := by decide +kernel
theorem dX11_rows_16 : decode cX11_rows 16 = .ok (.iload 5, 2) := by decide +kernel
theorem dX11_rows_18 : decode cX11_rows 18 = .ok (.iconst 5, 1) := by decide +kernel
theorem dX11_rows_19 : decode cX11_rows 19 = .ok (.if_icmp .gt 9, 3) := by decide +kernel
theorem dX11_rows_22 : decode cX11_rows 22 = .ok (.iload 6, 2) := by decide +kernel
theorem dX11_rows_24 : decode cX11_rows 24 = .ok (.iconst (-1), 1) := by decide +kernel
theorem dX11_rows_25 : decode cX11_rows 25 = .ok (.if_icmp .ge 5, 3) := by decide +kernel
theorem dX11_rows_28 : decode cX11_rows 28 = .ok (.iconst (-1), 1) := by decide +kernel
theorem dX11_rows_29 : decode cX11_rows 29 = .ok (.ireturn, 1) := by decide +kernel
theorem dX11_rows_30 : decode cX11_rows 30 = .ok (.iload_n 2, 1) := by decide +kernel
theorem dX11_rows_31 : decode cX11_rows 31 = .ok (.invokestatic 208, 3) := by decide +kernel
theorem dX11_rows_34 : decode cX11_rows 34 = .ok (.ifCond .eq 18, 3) := by decide +kernel
theorem dX11_rows_37 : decode cX11_rows 37 = .ok (.iload_n 3, 1) := by decide +kernel
theorem dX11_rows_38 : decode cX11_rows 38 = .ok (.invokestatic 208, 3) := by decide +kernel
theorem dX11_rows_41 : decode cX11_rows 41 = .ok (.ifCond .eq 11, 3) := by decide +kernel
theorem dX11_rows_44 : decode cX11_rows 44 = .ok (.iload 4, 2) := by decide +kernel
theorem dX11_rows_46 : decode cX11_rows 46 = .ok (.invokestatic 208, 3) := by decide +kernel
theorem dX11_rows_49 : decode cX11_rows 49 = .ok (.ifCond .ne 5, 3) := by decide +kernel
theorem dX11_rows_52 : decode cX11_rows 52 = .ok (.iconst (-1), 1) := by decide +kernel
theorem dX11_rows_53 : decode cX11_rows 53 = .ok (.ireturn, 1) := by decide +kernel
theorem dX11_rows_54 : decode cX11_rows 54 = .ok (.aload_n 0, 1) := by decide +kernel
theorem dX11_rows_55 : decode cX11_rows 55 = .ok (.getfield 60, 3) := by decide +kernel
theorem dX11_rows_58 : decode cX11_rows 58 = .ok (.aload_n 0, 1) := by decide +kernel
theorem dX11_rows_59 : decode cX11_rows 59 = .ok (.getfield 28, 3) := by decide +kernel
theorem dX11_rows_62 : decode cX11_rows 62 = .ok (.iload_n 1, 1) := by decide +kernel
theorem dX11_rows_63 : decode cX11_rows 63 = .ok (.iload 5, 2) := by decide +kernel
theorem dX11_rows_65 : decode cX11_rows 65 = .ok (.iload_n 2, 1) := by decide +kernel
theorem dX11_rows_66 : decode cX11_rows 66 = .ok (.iload_n 3, 1) := by decide +kernel
theorem dX11_rows_67 : decode cX11_rows 67 = .ok (.iload 4, 2) := by decide +kernel
theorem dX11_rows_69 : decode cX11_rows 69 = .ok (.invokestatic 211, 3) := by decide +kernel
theorem dX11_rows_72 : decode cX11_rows 72 = .ok (.invokevirtual 215, 3) := by decide +kernel
theorem dX11_rows_75 : decode cX11_rows 75 = .ok (.iload 6, 2) := by decide +kernel
theorem dX11_rows_77 : decode cX11_rows 77 = .ok (.iconst (-1), 1) := by decide +kernel
theorem dX11_rows_78 : decode cX11_rows 78 = .ok (.if_icmp .ne 11, 3) := by decide +kernel
theorem dX11_rows_81 : decode cX11_rows 81 = .ok (.aload_n 0, 1) := by decide +kernel
theorem dX11_rows_82 : decode cX11_rows 82 = .ok (.getfield 60, 3) := by decide +kernel
theorem dX11_rows_85 : decode cX11_rows 85 = .ok (.getfield 219, 3) := by decide +kernel
theorem dX11_rows_88 : decode cX11_rows 88 = .ok (.ireturn, 1) := by decide +kernel
theorem dX11_rows_89 : decode cX11_rows 89 = .ok (.aload_n 0, 1) := by decide +kernel
theorem dX11_rows_90 : decode cX11_rows 90 = .ok (.getfield 60, 3) := by decide +kernel
theorem dX11_rows_93 : decode cX11_rows 93 = .ok (.getfield 219, 3) := by decide +kernel
theorem dX11_rows_96 : decode cX11_rows 96 = .ok (.ifCond .le 23, 3) := by decide +kernel
theorem dX11_rows_99 : decode cX11_rows 99 = .ok (.iload 6, 2) := by decide +kernel
theorem dX11_rows_101 : decode cX11_rows 101 = .ok (.iload 5, 2) := by decide +kernel
theorem dX11_rows_103 : decode cX11_rows 103 = .ok (.if_icmp .ge 16, 3) := by decide +kernel
theorem dX11_rows_106 : decode cX11_rows 106 = .ok (.aload_n 0, 1) := by decide +kernel
theorem dX11_rows_107 : decode cX11_rows 107 = .ok (.getfield 60, 3) := by decide +kernel
theorem dX11_rows_110 : decode cX11_rows 110 = .ok (.getfield 222, 3) := by decide +kernel
theorem dX11_rows_113 : decode cX11_rows 113 = .ok (.iload 6, 2) := by decide +kernel
theorem dX11_rows_115 : decode cX11_rows 115 = .ok (.iaload, 1) := by decide +kernel
theorem dX11_rows_116 : decode cX11_rows 116 = .ok (.goto 5, 3) := by decide +kernel
theorem dX11_rows_119 : decode cX11_rows 119 = .ok (.bipush (-4), 2) := by decide +kernel
theorem dX11_rows_121 : decode cX11_rows 121 = .ok (.ireturn, 1) := by decide +kernel
theorem dX11_shades_0 : decode cX11_shades 0 = .ok (.aload_n 0, 1) := by decide +kernel
theorem dX11_shades_1 : decode cX11_shades 1 = .ok (.getfield 28, 3) := by decide +kernel
theorem dX11_shades_4 : decode cX11_shades 4 = .ok (.iload_n 1, 1) := by decide +kernel
theorem dX11_shades_5 : decode cX11_shades 5 = .ok (.invokevirtual 110, 3) := by decide +kernel
theorem dX11_shades_8 : decode cX11_shades 8 = .ok (.ifCond .eq 12, 3) := by decide +kernel
theorem dX11_shades_11 : decode cX11_shades 11 = .ok (.iload_n 2, 1) := by decide +kernel
theorem dX11_shades_12 : decode cX11_shades 12 = .ok (.ifCond .lt 8, 3) := by decide +kernel
theorem dX11_shades_15 : decode cX11_shades 15 = .ok (.iload_n 2, 1) := by decide +kernel
theorem dX11_shades_16 : decode cX11_shades 16 = .ok (.iconst 5, 1) := by decide +kernel
theorem dX11_shades_17 : decode cX11_shades 17 = .ok (.if_icmp .le 5, 3) := by decide +kernel
theorem dX11_shades_20 : decode cX11_shades 20 = .ok (.iconst (-1), 1) := by decide +kernel
theorem dX11_shades_21 : decode cX11_shades 21 = .ok (.ireturn, 1) := by decide +kernel
theorem dX11_shades_22 : decode cX11_shades 22 = .ok (.aload_n 0, 1) := by decide +kernel
theorem dX11_shades_23 : decode cX11_shades 23 = .ok (.getfield 60, 3) := by decide +kernel
theorem dX11_shades_26 : decode cX11_shades 26 = .ok (.aload_n 0, 1) := by decide +kernel
theorem dX11_shades_27 : decode cX11_shades 27 = .ok (.getfield 28, 3) := by decide +kernel
theorem dX11_shades_30 : decode cX11_shades 30 = .ok (.iload_n 1, 1) := by decide +kernel
theorem dX11_shades_31 : decode cX11_shades 31 = .ok (.iload_n 2, 1) := by decide +kernel
theorem dX11_shades_32 : decode cX11_shades 32 = .ok (.iconst 0, 1) := by decide +kernel
theorem dX11_shades_33 : decode cX11_shades 33 = .ok (.invokevirtual 215, 3) := by decide +kernel
theorem dX11_shades_36 : decode cX11_shades 36 = .ok (.aload_n 0, 1) := by decide +kernel
theorem dX11_shades_37 : decode cX11_shades 37 = .ok (.getfield 60, 3) := by decide +kernel
theorem dX11_shades_40 : decode cX11_shades 40 = .ok (.getfield 225, 3) := by decide +kernel
theorem dX11_shades_43 : decode cX11_shades 43 = .ok (.ireturn, 1) := by decide +kernel
theorem dX11_cracks_0 : decode cX11_cracks 0 = .ok (.aload_n 0, 1) := by decide +kernel
theorem dX11_cracks_1 : decode cX11_cracks 1 = .ok (.getfield 28, 3) := by decide +kernel
theorem dX11_cracks_4 : decode cX11_cracks 4 = .ok (.iload_n 1, 1) := by decide +kernel
theorem dX11_cracks_5 : decode cX11_cracks 5 = .ok (.invokevirtual 147, 3) := by decide +kernel
theorem dX11_cracks_8 : decode cX11_cracks 8 = .ok (.ifCond .eq 13, 3) := by decide +kernel
theorem dX11_cracks_11 : decode cX11_cracks 11 = .ok (.iload_n 2, 1) := by decide +kernel
theorem dX11_cracks_12 : decode cX11_cracks 12 = .ok (.ifCond .lt 9, 3) := by decide +kernel
theorem dX11_cracks_15 : decode cX11_cracks 15 = .ok (.iload_n 2, 1) := by decide +kernel
theorem dX11_cracks_16 : decode cX11_cracks 16 = .ok (.bipush 8, 2) := by decide +kernel
theorem dX11_cracks_18 : decode cX11_cracks 18 = .ok (.if_icmp .le 5, 3) := by decide +kernel
theorem dX11_cracks_21 : decode cX11_cracks 21 = .ok (.iconst (-1), 1) := by decide +kernel
theorem dX11_cracks_22 : decode cX11_cracks 22 = .ok (.ireturn, 1) := by decide +kernel
theorem dX11_cracks_23 : decode cX11_cracks 23 = .ok (.iload_n 3, 1) := by decide +kernel
theorem dX11_cracks_24 : decode cX11_cracks 24 = .ok (.ifCond .lt 20, 3) := by decide +kernel
theorem dX11_cracks_27 : decode cX11_cracks 27 = .ok (.iload_n 3, 1) := by decide +kernel
theorem dX11_cracks_28 : decode cX11_cracks 28 = .ok (.bipush 10, 2) := by decide +kernel
theorem dX11_cracks_30 : decode cX11_cracks 30 = .ok (.if_icmp .gt 14, 3) := by decide +kernel
theorem dX11_cracks_33 : decode cX11_cracks 33 = .ok (.iload 4, 2) := by decide +kernel
theorem dX11_cracks_35 : decode cX11_cracks 35 = .ok (.ifCond .lt 9, 3) := by decide +kernel
theorem dX11_cracks_38 : decode cX11_cracks 38 = .ok (.iload 4, 2) := by decide +kernel
theorem dX11_cracks_40 : decode cX11_cracks 40 = .ok (.iconst 1, 1) := by decide +kernel
theorem dX11_cracks_41 : decode cX11_cracks 41 = .ok (.if_icmp .le 5, 3) := by decide +kernel
theorem dX11_cracks_44 : decode cX11_cracks 44 = .ok (.iconst (-1), 1) := by decide +kernel
theorem dX11_cracks_45 : decode cX11_cracks 45 = .ok (.ireturn, 1) := by decide +kernel
theorem dX11_cracks_46 : decode cX11_cracks 46 = .ok (.aload_n 0, 1) := by decide +kernel
theorem dX11_cracks_47 : decode cX11_cracks 47 = .ok (.getfield 67, 3) := by decide +kernel
theorem dX11_cracks_50 : decode cX11_cracks 50 = .ok (.aload_n 0, 1) := by decide +kernel
theorem dX11_cracks_51 : decode cX11_cracks 51 = .ok (.getfield 28, 3) := by decide +kernel
theorem dX11_cracks_54 : decode cX11_cracks 54 = .ok (.iload_n 1, 1) := by decide +kernel
theorem dX11_cracks_55 : decode cX11_cracks 55 = .ok (.iload_n 2, 1) := by decide +kernel
theorem dX11_cracks_56 : decode cX11_cracks 56 = .ok (.iload_n 3, 1) := by decide +kernel
theorem dX11_cracks_57 : decode cX11_cracks 57 = .ok (.invokevirtual 228, 3) := by decide +kernel
theorem dX11_cracks_60 : decode cX11_cracks 60 = .ok (.iload 4, 2) := by decide +kernel
theorem dX11_cracks_62 : decode cX11_cracks 62 = .ok (.ifCond .ne 13, 3) := by decide +kernel
theorem dX11_cracks_65 : decode cX11_cracks 65 = .ok (.aload_n 0, 1) := by decide +kernel
theorem dX11_cracks_66 : decode cX11_cracks 66 = .ok (.getfield 67, 3) := by decide +kernel
theorem dX11_cracks_69 : decode cX11_cracks 69 = .ok (.getfield 231, 3) := by decide +kernel
theorem dX11_cracks_72 : decode cX11_cracks 72 = .ok (.goto 10, 3) := by decide +kernel
theorem dX11_cracks_75 : decode cX11_cracks 75 = .ok (.aload_n 0, 1) := by decide +kernel
theorem dX11_cracks_76 : decode cX11_cracks 76 = .ok (.getfield 67, 3) := by decide +kernel
theorem dX11_cracks_79 : decode cX11_cracks 79 = .ok (.getfield 234, 3) := by decide +kernel
theorem dX11_cracks_82 : decode cX11_cracks 82 = .ok (.ireturn, 1) := by decide +kernel
theorem dX11_decades_0 : decode cX11_decades 0 = .ok (.iload_n 1, 1) := by decide +kernel
theorem dX11_decades_1 : decode cX11_decades 1 = .ok (.ifCond .lt 29, 3) := by decide +kernel
theorem dX11_decades_4 : decode cX11_decades 4 = .ok (.iload_n 1, 1) := by decide +kernel
theorem dX11_decades_5 : decode cX11_decades 5 = .ok (.bipush 60, 2) := by decide +kernel
theorem dX11_decades_7 : decode cX11_decades 7 = .ok (.if_icmp .gt 23, 3) := by decide +kernel
theorem dX11_decades_10 : decode cX11_decades 10 = .ok (.iload_n 2, 1) := by decide +kernel
theorem dX11_decades_11 : decode cX11_decades 11 = .ok (.iconst 1, 1) := by decide +kernel
theorem dX11_decades_12 : decode cX11_decades 12 = .ok (.if_icmp .lt 18, 3) := by decide +kernel
theorem dX11_decades_15 : decode cX11_decades 15 = .ok (.iload_n 2, 1) := by decide +kernel
theorem dX11_decades_16 : decode cX11_decades 16 = .ok (.ldc 237, 2) := by decide +kernel
theorem dX11_decades_18 : decode cX11_decades 18 = .ok (.if_icmp .gt 12, 3) := by decide +kernel
theorem dX11_decades_21 : decode cX11_decades 21 = .ok (.iload_n 3, 1) := by decide +kernel
theorem dX11_decades_22 : decode cX11_decades 22 = .ok (.ifCond .lt 8, 3) := by decide +kernel
theorem dX11_decades_25 : decode cX11_decades 25 = .ok (.iload_n 3, 1) := by decide +kernel
theorem dX11_decades_26 : decode cX11_decades 26 = .ok (.iconst 1, 1) := by decide +kernel
theorem dX11_decades_27 : decode cX11_decades 27 = .ok (.if_icmp .le 5, 3) := by decide +kernel
theorem dX11_decades_30 : decode cX11_decades 30 = .ok (.iconst (-1), 1) := by decide +kernel
theorem dX11_decades_31 : decode cX11_decades 31 = .ok (.ireturn, 1) := by decide +kernel
theorem dX11_decades_32 : decode cX11_decades 32 = .ok (.aload_n 0, 1) := by decide +kernel
theorem dX11_decades_33 : decode cX11_decades 33 = .ok (.getfield 28, 3) := by decide +kernel
theorem dX11_decades_36 : decode cX11_decades 36 = .ok (.invokevirtual 192, 3) := by decide +kernel
theorem dX11_decades_39 : decode cX11_decades 39 = .ok (.ifCond .ne 6, 3) := by decide +kernel
theorem dX11_decades_42 : decode cX11_decades 42 = .ok (.bipush (-2), 2) := by decide +kernel
theorem dX11_decades_44 : decode cX11_decades 44 = .ok (.ireturn, 1) := by decide +kernel
theorem dX11_decades_45 : decode cX11_decades 45 = .ok (.aload_n 0, 1) := by decide +kernel
theorem dX11_decades_46 : decode cX11_decades 46 = .ok (.getfield 67, 3) := by decide +kernel
theorem dX11_decades_49 : decode cX11_decades 49 = .ok (.aload_n 0, 1) := by decide +kernel
theorem dX11_decades_50 : decode cX11_decades 50 = .ok (.getfield 28, 3) := by decide +kernel
theorem dX11_decades_53 : decode cX11_decades 53 = .ok (.iload_n 1, 1) := by decide +kernel
theorem dX11_decades_54 : decode cX11_decades 54 = .ok (.iload_n 2, 1) := by decide +kernel
theorem dX11_decades_55 : decode cX11_decades 55 = .ok (.invokevirtual 238, 3) := by decide +kernel
theorem dX11_decades_58 : decode cX11_decades 58 = .ok (.iload_n 3, 1) := by decide +kernel
theorem dX11_decades_59 : decode cX11_decades 59 = .ok (.ifCond .ne 13, 3) := by decide +kernel
theorem dX11_decades_62 : decode cX11_decades 62 = .ok (.aload_n 0, 1) := by decide +kernel
theorem dX11_decades_63 : decode cX11_decades 63 = .ok (.getfield 67, 3) := by decide +kernel
theorem dX11_decades_66 : decode cX11_decades 66 = .ok (.getfield 242, 3) := by decide +kernel
theorem dX11_decades_69 : decode cX11_decades 69 = .ok (.goto 10, 3) := by decide +kernel
theorem dX11_decades_72 : decode cX11_decades 72 = .ok (.aload_n 0, 1) := by decide +kernel
theorem dX11_decades_73 : decode cX11_decades 73 = .ok (.getfield 67, 3) := by decide +kernel
theorem dX11_decades_76 : decode cX11_decades 76 = .ok (.getfield 245, 3) := by decide +kernel
theorem dX11_decades_79 : decode cX11_decades 79 = .ok (.ireturn, 1) := by decide +kernel
theorem dX11_sheet_0 : decode cX11_sheet 0 = .ok (.iload_n 1, 1) := by decide +kernel
theorem dX11_sheet_1 : decode cX11_sheet 1 = .ok (.invokestatic 248, 3) := by decide +kernel
theorem dX11_sheet_4 : decode cX11_sheet 4 = .ok (.ifCond .eq 16, 3) := by decide +kernel
theorem dX11_sheet_7 : decode cX11_sheet 7 = .ok (.iload_n 2, 1) := by decide +kernel
theorem dX11_sheet_8 : decode cX11_sheet 8 = .ok (.invokestatic 251, 3) := by decide +kernel
theorem dX11_sheet_11 : decode cX11_sheet 11 = .ok (.ifCond .eq 9, 3) := by decide +kernel
theorem dX11_sheet_14 : decode cX11_sheet 14 = .ok (.iload_n 3, 1) := by decide +kernel
theorem dX11_sheet_15 : decode cX11_sheet 15 = .ok (.bipush 24, 2) := by decide +kernel
theorem dX11_sheet_17 : decode cX11_sheet 17 = .ok (.if_icmp .le 5, 3) := by decide +kernel
theorem dX11_sheet_20 : decode cX11_sheet 20 = .ok (.iconst (-1), 1) := by decide +kernel
theorem dX11_sheet_21 : decode cX11_sheet 21 = .ok (.ireturn, 1) := by decide +kernel
theorem dX11_sheet_22 : decode cX11_sheet 22 = .ok (.iload_n 3, 1) := by decide +kernel
theorem dX11_sheet_23 : decode cX11_sheet 23 = .ok (.ifCond .ge 6, 3) := by decide +kernel
theorem dX11_sheet_26 : decode cX11_sheet 26 = .ok (.bipush (-14), 2) := by decide +kernel
theorem dX11_sheet_28 : decode cX11_sheet 28 = .ok (.ireturn, 1) := by decide +kernel
theorem dX11_sheet_29 : decode cX11_sheet 29 = .ok (.aload_n 0, 1) := by decide +kernel
theorem dX11_sheet_30 : decode cX11_sheet 30 = .ok (.getfield 45, 3) := by decide +kernel
theorem dX11_sheet_33 : decode cX11_sheet 33 = .ok (.iload_n 1, 1) := by decide +kernel
theorem dX11_sheet_34 : decode cX11_sheet 34 = .ok (.aaload, 1) := by decide +kernel
theorem dX11_sheet_35 : decode cX11_sheet 35 = .ok (.iload_n 2, 1) := by decide +kernel
theorem dX11_sheet_36 : decode cX11_sheet 36 = .ok (.iload_n 3, 1) := by decide +kernel
theorem dX11_sheet_37 : decode cX11_sheet 37 = .ok (.invokevirtual 254, 3) := by decide +kernel
theorem dX11_sheet_40 : decode cX11_sheet 40 = .ok (.iload_n 3, 1) := by decide +kernel
theorem dX11_sheet_41 : decode cX11_sheet 41 = .ok (.ireturn, 1) := by decide +kernel
theorem dX11_drop_0 : decode cX11_drop 0 = .ok (.iload_n 1, 1) := by decide +kernel
theorem dX11_drop_1 : decode cX11_drop 1 = .ok (.invokestatic 248, 3) := by decide +kernel
theorem dX11_drop_4 : decode cX11_drop 4 = .ok (.ifCond .ne 5, 3) := by decide +kernel
theorem dX11_drop_7 : decode cX11_drop 7 = .ok (.iconst (-1), 1) := by decide +kernel
theorem dX11_drop_8 : decode cX11_drop 8 = .ok (.ireturn, 1) := by decide +kernel
theorem dX11_drop_9 : decode cX11_drop 9 = .ok (.aload_n 0, 1) := by decide +kernel
theorem dX11_drop_10 : decode cX11_drop 10 = .ok (.getfield 45, 3) := by decide +kernel
theorem dX11_drop_13 : decode cX11_drop 13 = .ok (.iload_n 1, 1) := by decide +kernel
theorem dX11_drop_14 : decode cX11_drop 14 = .ok (.aaload, 1) := by decide +kernel
theorem dX11_drop_15 : decode cX11_drop 15 = .ok (.invokevirtual 258, 3) := by decide +kernel
theorem dX11_drop_18 : decode cX11_drop 18 = .ok (.ifCond .eq 6, 3) := by decide +kernel
theorem dX11_drop_21 : decode cX11_drop 21 = .ok (.bipush (-11), 2) := by decide +kernel
theorem dX11_drop_23 : decode cX11_drop 23 = .ok (.ireturn, 1) := by decide +kernel
theorem dX11_drop_24 : decode cX11_drop 24 = .ok (.aload_n 0, 1) := by decide +kernel
theorem dX11_drop_25 : decode cX11_drop 25 = .ok (.getfield 45, 3) := by decide +kernel
theorem dX11_drop_28 : decode cX11_drop 28 = .ok (.iload_n 1, 1) := by decide +kernel
theorem dX11_drop_29 : decode cX11_drop 29 = .ok (.aaload, 1) := by decide +kernel
theorem dX11_drop_30 : decode cX11_drop 30 = .ok (.invokevirtual 261, 3) := by decide +kernel
theorem dX11_drop_33 : decode cX11_drop 33 = .ok (.ireturn, 1) := by decide +kernel
theorem dX11_item_0 : decode cX11_item 0 = .ok (.iload_n 1, 1) := by decide +kernel
theorem dX11_item_1 : decode cX11_item 1 = .ok (.invokestatic 248, 3) := by decide +kernel
theorem dX11_item_4 : decode cX11_item 4 = .ok (.ifCond .eq 10, 3) := by decide +kernel
theorem dX11_item_7 : decode cX11_item 7 = .ok (.iload_n 2, 1) := by decide +kernel
theorem dX11_item_8 : decode cX11_item 8 = .ok (.invokestatic 251, 3) := by decide +kernel
theorem dX11_item_11 : decode cX11_item 11 = .ok (.ifCond .ne 7, 3) := by decide +kernel
theorem dX11_item_14 : decode cX11_item 14 = .ok (.ldc2_w 265, 3) := by decide +kernel
theorem dX11_item_17 : decode cX11_item 17 = .ok (.lreturn, 1) := by decide +kernel
theorem dX11_item_18 : decode cX11_item 18 = .ok (.aload_n 0, 1) := by decide +kernel
theorem dX11_item_19 : decode cX11_item 19 = .ok (.getfield 45, 3) := by decide +kernel
theorem dX11_item_22 : decode cX11_item 22 = .ok (.iload_n 1, 1) := by decide +kernel
theorem dX11_item_23 : decode cX11_item 23 = .ok (.aaload, 1) := by decide +kernel
theorem dX11_item_24 : decode cX11_item 24 = .ok (.iload_n 2, 1) := by decide +kernel
theorem dX11_item_25 : decode cX11_item 25 = .ok (.iload_n 3, 1) := by decide +kernel
theorem dX11_item_26 : decode cX11_item 26 = .ok (.iconst 1, 1) := by decide +kernel
theorem dX11_item_27 : decode cX11_item 27 = .ok (.invokevirtual 267, 3) := by decide +kernel
theorem dX11_item_30 : decode cX11_item 30 = .ok (.istore 6, 2) := by decide +kernel
theorem dX11_item_32 : decode cX11_item 32 = .ok (.iload 6, 2) := by decide +kernel
theorem dX11_item_34 : decode cX11_item 34 = .ok (.ifCond .eq 7, 3) := by decide +kernel
theorem dX11_item_37 : decode cX11_item 37 = .ok (.iload 6, 2) := by decide +kernel
theorem dX11_item_39 : decode cX11_item 39 = .ok (.i2l, 1) := by decide +kernel
theorem dX11_item_40 : decode cX11_item 40 = .ok (.lreturn, 1) := by decide +kernel
theorem dX11_item_41 : decode cX11_item 41 = .ok (.aload_n 0, 1) := by decide +kernel
theorem dX11_item_42 : decode cX11_item 42 = .ok (.getfield 45, 3) := by decide +kernel
theorem dX11_item_45 : decode cX11_item 45 = .ok (.iload_n 1, 1) := by decide +kernel
theorem dX11_item_46 : decode cX11_item 46 = .ok (.aaload, 1) := by decide +kernel
theorem dX11_item_47 : decode cX11_item 47 = .ok (.iload_n 3, 1) := by decide +kernel
theorem dX11_item_48 : decode cX11_item 48 = .ok (.lload 4, 2) := by decide +kernel
theorem dX11_item_50 : decode cX11_item 50 = .ok (.invokevirtual 270, 3) := by decide +kernel
theorem dX11_item_53 : decode cX11_item 53 = .ok (.lreturn, 1) := by decide +kernel
theorem dX11_copy_0 : decode cX11_copy 0 = .ok (.iload_n 1, 1) := by decide +kernel
theorem dX11_copy_1 : decode cX11_copy 1 = .ok (.invokestatic 248, 3) := by decide +kernel
theorem dX11_copy_4 : decode cX11_copy 4 = .ok (.ifCond .eq 10, 3) := by decide +kernel
theorem dX11_copy_7 : decode cX11_copy 7 = .ok (.iload_n 3, 1) := by decide +kernel
theorem dX11_copy_8 : decode cX11_copy 8 = .ok (.invokestatic 248, 3) := by decide +kernel
theorem dX11_copy_11 : decode cX11_copy 11 = .ok (.ifCond .ne 5, 3) := by decide +kernel
theorem dX11_copy_14 : decode cX11_copy 14 = .ok (.iconst (-1), 1) := by decide +kernel
theorem dX11_copy_15 : decode cX11_copy 15 = .ok (.ireturn, 1) := by decide +kernel
theorem dX11_copy_16 : decode cX11_copy 16 = .ok (.aload_n 0, 1) := by decide +kernel
theorem dX11_copy_17 : decode cX11_copy 17 = .ok (.getfield 45, 3) := by decide +kernel
theorem dX11_copy_20 : decode cX11_copy 20 = .ok (.iload_n 1, 1) := by decide +kernel
theorem dX11_copy_21 : decode cX11_copy 21 = .ok (.aaload, 1) := by decide +kernel
theorem dX11_copy_22 : decode cX11_copy 22 = .ok (.astore 6, 2) := by decide +kernel
theorem dX11_copy_24 : decode cX11_copy 24 = .ok (.aload_n 0, 1) := by decide +kernel
theorem dX11_copy_25 : decode cX11_copy 25 = .ok (.getfield 45, 3) := by decide +kernel
theorem dX11_copy_28 : decode cX11_copy 28 = .ok (.iload_n 3, 1) := by decide +kernel
theorem dX11_copy_29 : decode cX11_copy 29 = .ok (.aaload, 1) := by decide +kernel
theorem dX11_copy_30 : decode cX11_copy 30 = .ok (.astore 7, 2) := by decide +kernel
theorem dX11_copy_32 : decode cX11_copy 32 = .ok (.aload 6, 2) := by decide +kernel
theorem dX11_copy_34 : decode cX11_copy 34 = .ok (.invokevirtual 258, 3) := by decide +kernel
theorem dX11_copy_37 : decode cX11_copy 37 = .ok (.ifCond .ne 11, 3) := by decide +kernel
theorem dX11_copy_40 : decode cX11_copy 40 = .ok (.aload 7, 2) := by decide +kernel
theorem dX11_copy_42 : decode cX11_copy 42 = .ok (.invokevirtual 258, 3) := by decide +kernel
theorem dX11_copy_45 : decode cX11_copy 45 = .ok (.ifCond .eq 6, 3) := by decide +kernel
theorem dX11_copy_48 : decode cX11_copy 48 = .ok (.bipush (-11), 2) := by decide +kernel
theorem dX11_copy_50 : decode cX11_copy 50 = .ok (.ireturn, 1) := by decide +kernel
theorem dX11_copy_51 : decode cX11_copy 51 = .ok (.aload 6, 2) := by decide +kernel
theorem dX11_copy_53 : decode cX11_copy 53 = .ok (.getfield 273, 3) := by decide +kernel
theorem dX11_copy_56 : decode cX11_copy 56 = .ok (.aload 7, 2) := by decide +kernel
theorem dX11_copy_58 : decode cX11_copy 58 = .ok (.getfield 273, 3) := by decide +kernel
theorem dX11_copy_61 : decode cX11_copy 61 = .ok (.if_icmp .eq 6, 3) := by decide +kernel
theorem dX11_copy_64 : decode cX11_copy 64 = .ok (.bipush (-12), 2) := by decide +kernel
theorem dX11_copy_66 : decode cX11_copy 66 = .ok (.ireturn, 1) := by decide +kernel
theorem dX11_copy_67 : decode cX11_copy 67 = .ok (.aload 6, 2) := by decide +kernel
theorem dX11_copy_69 : decode cX11_copy 69 = .ok (.iload_n 2, 1) := by decide +kernel
theorem dX11_copy_70 : decode cX11_copy 70 = .ok (.iload 5, 2) := by decide +kernel
theorem dX11_copy_72 : decode cX11_copy 72 = .ok (.invokevirtual 276, 3) := by decide +kernel
theorem dX11_copy_75 : decode cX11_copy 75 = .ok (.ifCond .eq 15, 3) := by decide +kernel
theorem dX11_copy_78 : decode cX11_copy 78 = .ok (.aload 7, 2) := by decide +kernel
theorem dX11_copy_80 : decode cX11_copy 80 = .ok (.iload 4, 2) := by decide +kernel
theorem dX11_copy_82 : decode cX11_copy 82 = .ok (.iload 5, 2) := by decide +kernel
theorem dX11_copy_84 : decode cX11_copy 84 = .ok (.invokevirtual 276, 3) := by decide +kernel
theorem dX11_copy_87 : decode cX11_copy 87 = .ok (.ifCond .ne 6, 3) := by decide +kernel
theorem dX11_copy_90 : decode cX11_copy 90 = .ok (.bipush (-13), 2) := by decide +kernel
theorem dX11_copy_92 : decode cX11_copy 92 = .ok (.ireturn, 1) := by decide +kernel
theorem dX11_copy_93 : decode cX11_copy 93 = .ok (.aload 6, 2) := by decide +kernel
theorem dX11_copy_95 : decode cX11_copy 95 = .ok (.getfield 279, 3) := by decide +kernel
theorem dX11_copy_98 : decode cX11_copy 98 = .ok (.iload_n 2, 1) := by decide +kernel
theorem dX11_copy_99 : decode cX11_copy 99 = .ok (.aload 7, 2) := by decide +kernel
theorem dX11_copy_101 : decode cX11_copy 101 = .ok (.getfield 279, 3) := by decide +kernel
theorem dX11_copy_104 : decode cX11_copy 104 = .ok (.iload 4, 2) := by decide +kernel
theorem dX11_copy_106 : decode cX11_copy 106 = .ok (.iload 5, 2) := by decide +kernel
theorem dX11_copy_108 : decode cX11_copy 108 = .ok (.invokestatic 283, 3) := by decide +kernel
theorem dX11_copy_111 : decode cX11_copy 111 = .ok (.iload 5, 2) := by decide +kernel
theorem dX11_copy_113 : decode cX11_copy 113 = .ok (.ireturn, 1) := by decide +kernel
