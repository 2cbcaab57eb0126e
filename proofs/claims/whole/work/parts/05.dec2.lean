theorem dX11_rows_0 : decode cX11_rows 0 = .ok (.aload_n 0, 1) := by decide +kernel
theorem dX11_rows_1 : decode cX11_rows 1 = .ok (.getfield 28, 3) := by decide +kernel
theorem dX11_rows_4 : decode cX11_rows 4 = .ok (.iload_n 1, 1) := by decide +kernel
theorem dX11_rows_5 : decode cX11_rows 5 = .ok (.invokevirtual 110, 3) := by decide +kernel
theorem dX11_rows_8 : decode cX11_rows 8 = .ok (.ifCond .eq 20, 3) := by decide +kernel
theorem dX11_rows_11 : decode cX11_rows 11 = .ok (.iload 5, 2) := by decide +kernel
theorem dX11_rows_13 : decode cX11_rows 13 = .ok (.ifCond .lt 15, 3) := by decide +kernel
theorem dX11_rows_16 : decode cX11_rows 16 = .ok (.iload 5, 2) := by decide +kernel
theorem dX11_rows_18 : decode cX11_rows 18 = .ok (.iconst 5, 1) := by decide +kernel
theorem dX11_rows_19 : decode cX11_rows 19 = .ok (.if_icmp .gt 9, 3) := by decide +kernel
theorem dX11_rows_22 : decode cX11_rows 22 = .ok (.iload 6, 2) := by decide +kernel
theorem dX11_rows_24 : decode cX11_rows 24 = .ok (.iconst (-1), 1) := by decide +kernel
theorem dX11_rows_25 : decode cX11_rows 25 = .ok (.if_icmp .ge 5, 3) := by decide +kernel
theorem dX11_rows_28 : decode cX11_rows 28 = .ok (.iconst (-1), 1) := by decide +kernel
theorem dX11_rows_29 : decode cX11_rows 29 = .ok (.ireturn, 1) := by decide +kernel
theorem dX11_rows_30 : decode cX11_rows 30 = .ok (.iload_n 2, 1) := by decide +kernel
theorem dX11_rows_31 : decode cX11_rows 31 = .ok (.invokestatic 208, 3) := by decide +kernel
theorem dX11_rows_34 : decode cX11_rows 34 = .ok (.ifCond .eq 18, 3) := by decide +kernel
theorem dX11_rows_37 : decode cX11_rows 37 = .ok (.iload_n 3, 1) := by decide +kernel
theorem dX11_rows_38 : decode cX11_rows 38 = .ok (.invokestatic 208, 3) := by decide +kernel
theorem dX11_rows_41 : decode cX11_rows 41 = .ok (.ifCond .eq 11, 3) := by decide +kernel
theorem dX11_rows_44 : decode cX11_rows 44 = .ok (.iload 4, 2) := by decide +kernel
theorem dX11_rows_46 : decode cX11_rows 46 = .ok (.invokestatic 208, 3) := by decide +kernel
theorem dX11_rows_49 : decode cX11_rows 49 = .ok (.ifCond .ne 5, 3) := by decide +kernel
theorem dX11_rows_52 : decode cX11_rows 52 = .ok (.iconst (-1), 1) := by decide +kernel
theorem dX11_rows_53 : decode cX11_rows 53 = .ok (.ireturn, 1) := by decide +kernel
theorem dX11_rows_54 : decode cX11_rows 54 = .ok (.aload_n 0, 1) := by decide +kernel
theorem dX11_rows_55 : decode cX11_rows 55 = .ok (.getfield 60, 3) := by decide +kernel
theorem dX11_rows_58 : decode cX11_rows 58 = .ok (.aload_n 0, 1) := by decide +kernel
theorem dX11_rows_59 : decode cX11_rows 59 = .ok (.getfield 28, 3) := by decide +kernel
theorem dX11_rows_62 : decode cX11_rows 62 = .ok (.iload_n 1, 1) := by decide +kernel
theorem dX11_rows_63 : decode cX11_rows 63 = .ok (.iload 5, 2) := by decide +kernel
theorem dX11_rows_65 : decode cX11_rows 65 = .ok (.iload_n 2, 1) := by decide +kernel
theorem dX11_rows_66 : decode cX11_rows 66 = .ok (.iload_n 3, 1) := by decide +kernel
theorem dX11_rows_67 : decode cX11_rows 67 = .ok (.iload 4, 2) := by decide +kernel
theorem dX11_rows_69 : decode cX11_rows 69 = .ok (.invokestatic 211, 3) := by decide +kernel
theorem dX11_rows_72 : decode cX11_rows 72 = .ok (.invokevirtual 215, 3) := by decide +kernel
theorem dX11_rows_75 : decode cX11_rows 75 = .ok (.iload 6, 2) := by decide +kernel
theorem dX11_rows_77 : decode cX11_rows 77 = .ok (.iconst (-1), 1) := by decide +kernel
theorem dX11_rows_78 : decode cX11_rows 78 = .ok (.if_icmp .ne 11, 3) := by decide +kernel
theorem dX11_rows_81 : decode cX11_rows 81 = .ok (.aload_n 0, 1) := by decide +kernel
theorem dX11_rows_82 : decode cX11_rows 82 = .ok (.getfield 60, 3) := by decide +kernel
theorem dX11_rows_85 : decode cX11_rows 85 = .ok (.getfield 219, 3) := by decide +kernel
theorem dX11_rows_88 : decode cX11_rows 88 = .ok (.ireturn, 1) := by decide +kernel
theorem dX11_rows_89 : decode cX11_rows 89 = .ok (.aload_n 0, 1) := by decide +kernel
theorem dX11_rows_90 : decode cX11_rows 90 = .ok (.getfield 60, 3) := by decide +kernel
theorem dX11_rows_93 : decode cX11_rows 93 = .ok (.getfield 219, 3) := by decide +kernel
theorem dX11_rows_96 : decode cX11_rows 96 = .ok (.ifCond .le 23, 3) := by decide +kernel
theorem dX11_rows_99 : decode cX11_rows 99 = .ok (.iload 6, 2) := by decide +kernel
theorem dX11_rows_101 : decode cX11_rows 101 = .ok (.iload 5, 2) := by decide +kernel
theorem dX11_rows_103 : decode cX11_rows 103 = .ok (.if_icmp .ge 16, 3) := by decide +kernel
theorem dX11_rows_106 : decode cX11_rows 106 = .ok (.aload_n 0, 1) := by decide +kernel
theorem dX11_rows_107 : decode cX11_rows 107 = .ok (.getfield 60, 3) := by decide +kernel
theorem dX11_rows_110 : decode cX11_rows 110 = .ok (.getfield 222, 3) := by decide +kernel
theorem dX11_rows_113 : decode cX11_rows 113 = .ok (.iload 6, 2) := by decide +kernel
theorem dX11_rows_115 : decode cX11_rows 115 = .ok (.iaload, 1) := by decide +kernel
theorem dX11_rows_116 : decode cX11_rows 116 = .ok (.goto 5, 3) := by decide +kernel
theorem dX11_rows_119 : decode cX11_rows 119 = .ok (.bipush (-4), 2) := by decide +kernel
theorem dX11_rows_121 : decode cX11_rows 121 = .ok (.ireturn, 1) := by decide +kernel
theorem dX11_shades_0 : decode cX11_shades 0 = .ok (.aload_n 0, 1) := by decide +kernel
theorem dX11_shades_1 : decode cX11_shades 1 = .ok (.getfield 28, 3) := by decide +kernel
theorem dX11_shades_4 : decode cX11_shades 4 = .ok (.iload_n 1, 1) := by decide +kernel
theorem dX11_shades_5 : decode cX11_shades 5 = .ok (.invokevirtual 110, 3) := by decide +kernel
theorem dX11_shades_8 : decode cX11_shades 8 = .ok (.ifCond .eq 12, 3) := by decide +kernel
theorem dX11_shades_11 : decode cX11_shades 11 = .ok (.iload_n 2, 1) := by decide +kernel
theorem dX11_shades_12 : decode cX11_shades 12 = .ok (.ifCond .lt 8, 3) := by decide +kernel
theorem dX11_shades_15 : decode cX11_shades 15 = .ok (.iload_n 2, 1) := by decide +kernel
theorem dX11_shades_16 : decode cX11_shades 16 = .ok (.iconst 5, 1) := by decide +kernel
theorem dX11_shades_17 : decode cX11_shades 17 = .ok (.if_icmp .le 5, 3) := by decide +kernel
theorem dX11_shades_20 : decode cX11_shades 20 = .ok (.iconst (-1), 1) := by decide +kernel
theorem dX11_shades_21 : decode cX11_shades 21 = .ok (.ireturn, 1) := by decide +kernel
theorem dX11_shades_22 : decode cX11_shades 22 = .ok (.aload_n 0, 1) := by decide +kernel
theorem dX11_shades_23 : decode cX11_shades 23 = .ok (.getfield 60, 3) := by decide +kernel
theorem dX11_shades_26 : decode cX11_shades 26 = .ok (.aload_n 0, 1) := by decide +kernel
theorem dX11_shades_27 : decode cX11_shades 27 = .ok (.getfield 28, 3) := by decide +kernel
theorem dX11_shades_30 : decode cX11_shades 30 = .ok (.iload_n 1, 1) := by decide +kernel
theorem dX11_shades_31 : decode cX11_shades 31 = .ok (.iload_n 2, 1) := by decide +kernel
theorem dX11_shades_32 : decode cX11_shades 32 = .ok (.iconst 0, 1) := by decide +kernel
theorem dX11_shades_33 : decode cX11_shades 33 = .ok (.invokevirtual 215, 3) := by decide +kernel
theorem dX11_shades_36 : decode cX11_shades 36 = .ok (.aload_n 0, 1) := by decide +kernel
theorem dX11_shades_37 : decode cX11_shades 37 = .ok (.getfield 60, 3) := by decide +kernel
theorem dX11_shades_40 : decode cX11_shades 40 = .ok (.getfield 225, 3) := by decide +kernel
theorem dX11_shades_43 : decode cX11_shades 43 = .ok (.ireturn, 1) := by decide +kernel
theorem dX11_cracks_0 : decode cX11_cracks 0 = .ok (.aload_n 0, 1) := by decide +kernel
theorem dX11_cracks_1 : decode cX11_cracks 1 = .ok (.getfield 28, 3) := by decide +kernel
theorem dX11_cracks_4 : decode cX11_cracks 4 = .ok (.iload_n 1, 1) := by decide +kernel
theorem dX11_cracks_5 : decode cX11_cracks 5 = .ok (.invokevirtual 147, 3) := by decide +kernel
theorem dX11_cracks_8 : decode cX11_cracks 8 = .ok (.ifCond .eq 13, 3) := by decide +kernel
theorem dX11_cracks_11 : decode cX11_cracks 11 = .ok (.iload_n 2, 1) := by decide +kernel
theorem dX11_cracks_12 : decode cX11_cracks 12 = .ok (.ifCond .lt 9, 3) := by decide +kernel
theorem dX11_cracks_15 : decode cX11_cracks 15 = .ok (.iload_n 2, 1) := by decide +kernel
theorem dX11_cracks_16 : decode cX11_cracks 16 = .ok (.bipush 8, 2) := by decide +kernel
theorem dX11_cracks_18 : decode cX11_cracks 18 = .ok (.if_icmp .le 5, 3) := by decide +kernel
theorem dX11_cracks_21 : decode cX11_cracks 21 = .ok (.iconst (-1), 1) := by decide +kernel
theorem dX11_cracks_22 : decode cX11_cracks 22 = .ok (.ireturn, 1) := by decide +kernel
theorem dX11_cracks_23 : decode cX11_cracks 23 = .ok (.iload_n 3, 1) := by decide +kernel
theorem dX11_cracks_24 : decode cX11_cracks 24 = .ok (.ifCond .lt 20, 3) := by decide +kernel
theorem dX11_cracks_27 : decode cX11_cracks 27 = .ok (.iload_n 3, 1) := by decide +kernel
theorem dX11_cracks_28 : decode cX11_cracks 28 = .ok (.bipush 10, 2) := by decide +kernel
theorem dX11_cracks_30 : decode cX11_cracks 30 = .ok (.if_icmp .gt 14, 3) := by decide +kernel
theorem dX11_cracks_33 : decode cX11_cracks 33 = .ok (.iload 4, 2) := by decide +kernel
theorem dX11_cracks_35 : decode cX11_cracks 35 = .ok (.ifCond .lt 9, 3) := by decide +kernel
theorem dX11_cracks_38 : decode cX11_cracks 38 = .ok (.iload 4, 2) := by decide +kernel
theorem dX11_cracks_40 : decode cX11_cracks 40 = .ok (.iconst 1, 1) := by decide +kernel
theorem dX11_cracks_41 : decode cX11_cracks 41 = .ok (.if_icmp .le 5, 3) := by decide +kernel
theorem dX11_cracks_44 : decode cX11_cracks 44 = .ok (.iconst (-1), 1) := by decide +kernel
theorem dX11_cracks_45 : decode cX11_cracks 45 = .ok (.ireturn, 1) := by decide +kernel
theorem dX11_cracks_46 : decode cX11_cracks 46 = .ok (.aload_n 0, 1) := by decide +kernel
theorem dX11_cracks_47 : decode cX11_cracks 47 = .ok (.getfield 67, 3) := by decide +kernel
theorem dX11_cracks_50 : decode cX11_cracks 50 = .ok (.aload_n 0, 1) := by decide +kernel
theorem dX11_cracks_51 : decode cX11_cracks 51 = .ok (.getfield 28, 3) := by decide +kernel
theorem dX11_cracks_54 : decode cX11_cracks 54 = .ok (.iload_n 1, 1) := by decide +kernel
theorem dX11_cracks_55 : decode cX11_cracks 55 = .ok (.iload_n 2, 1) := by decide +kernel
theorem dX11_cracks_56 : decode cX11_cracks 56 = .ok (.iload_n 3, 1) := by decide +kernel
theorem dX11_cracks_57 : decode cX11_cracks 57 = .ok (.invokevirtual 228, 3) := by decide +kernel
theorem dX11_cracks_60 : decode cX11_cracks 60 = .ok (.iload 4, 2) := by decide +kernel
theorem dX11_cracks_62 : decode cX11_cracks 62 = .ok (.ifCond .ne 13, 3) := by decide +kernel
theorem dX11_cracks_65 : decode cX11_cracks 65 = .ok (.aload_n 0, 1) := by decide +kernel
theorem dX11_cracks_66 : decode cX11_cracks 66 = .ok (.getfield 67, 3) := by decide +kernel
theorem dX11_cracks_69 : decode cX11_cracks 69 = .ok (.getfield 231, 3) := by decide +kernel
theorem dX11_cracks_72 : decode cX11_cracks 72 = .ok (.goto 10, 3) := by decide +kernel
theorem dX11_cracks_75 : decode cX11_cracks 75 = .ok (.aload_n 0, 1) := by decide +kernel
theorem dX11_cracks_76 : decode cX11_cracks 76 = .ok (.getfield 67, 3) := by decide +kernel
theorem dX11_cracks_79 : decode cX11_cracks 79 = .ok (.getfield 234, 3) := by decide +kernel
theorem dX11_cracks_82 : decode cX11_cracks 82 = .ok (.ireturn, 1) := by decide +kernel
theorem dX11_decades_0 : decode cX11_decades 0 = .ok (.iload_n 1, 1) := by decide +kernel
theorem dX11_decades_1 : decode cX11_decades 1 = .ok (.ifCond .lt 29, 3) := by decide +kernel
theorem dX11_decades_4 : decode cX11_decades 4 = .ok (.iload_n 1, 1) := by decide +kernel
theorem dX11_decades_5 : decode cX11_decades 5 = .ok (.bipush 60, 2) := by decide +kernel
theorem dX11_decades_7 : decode cX11_decades 7 = .ok (.if_icmp .gt 23, 3) := by decide +kernel
theorem dX11_decades_10 : decode cX11_decades 10 = .ok (.iload_n 2, 1) := by decide +kernel
theorem dX11_decades_11 : decode cX11_decades 11 = .ok (.iconst 1, 1) := by decide +kernel
theorem dX11_decades_12 : decode cX11_decades 12 = .ok (.if_icmp .lt 18, 3) := by decide +kernel
theorem dX11_decades_15 : decode cX11_decades 15 = .ok (.iload_n 2, 1) := by decide +kernel
theorem dX11_decades_16 : decode cX11_decades 16 = .ok (.ldc 237, 2) := by decide +kernel
theorem dX11_decades_18 : decode cX11_decades 18 = .ok (.if_icmp .gt 12, 3) := by decide +kernel
theorem dX11_decades_21 : decode cX11_decades 21 = .ok (.iload_n 3, 1) := by decide +kernel
theorem dX11_decades_22 : decode cX11_decades 22 = .ok (.ifCond .lt 8, 3) := by decide +kernel
theorem dX11_decades_25 : decode cX11_decades 25 = .ok (.iload_n 3, 1) := by decide +kernel
theorem dX11_decades_26 : decode cX11_decades 26 = .ok (.iconst 1, 1) := by decide +kernel
theorem dX11_decades_27 : decode cX11_decades 27 = .ok (.if_icmp .le 5, 3) := by decide +kernel
theorem dX11_decades_30 : decode cX11_decades 30 = .ok (.iconst (-1), 1) := by decide +kernel
theorem dX11_decades_31 : decode cX11_decades 31 = .ok (.ireturn, 1) := by decide +kernel
theorem dX11_decades_32 : decode cX11_decades 32 = .ok (.aload_n 0, 1) := by decide +kernel
theorem dX11_decades_33 : decode cX11_decades 33 = .ok (.getfield 28, 3) := by decide +kernel
theorem dX11_decades_36 : decode cX11_decades 36 = .ok (.invokevirtual 192, 3) := by decide +kernel
theorem dX11_decades_39 : decode cX11_decades 39 = .ok (.ifCond .ne 6, 3) := by decide +kernel
theorem dX11_decades_42 : decode cX11_decades 42 = .ok (.bipush (-2), 2) := by decide +kernel
theorem dX11_decades_44 : decode cX11_decades 44 = .ok (.ireturn, 1) := by decide +kernel
theorem dX11_decades_45 : decode cX11_decades 45 = .ok (.aload_n 0, 1) := by decide +kernel
theorem dX11_decades_46 : decode cX11_decades 46 = .ok (.getfield 67, 3) := by decide +kernel
theorem dX11_decades_49 : decode cX11_decades 49 = .ok (.aload_n 0, 1) := by decide +kernel
theorem dX11_decades_50 : decode cX11_decades 50 = .ok (.getfield 28, 3) := by decide +kernel
theorem dX11_decades_53 : decode cX11_decades 53 = .ok (.iload_n 1, 1) := by decide +kernel
theorem dX11_decades_54 : decode cX11_decades 54 = .ok (.iload_n 2, 1) := by decide +kernel
theorem dX11_decades_55 : decode cX11_decades 55 = .ok (.invokevirtual 238, 3) := by decide +kernel
theorem dX11_decades_58 : decode cX11_decades 58 = .ok (.iload_n 3, 1) := by decide +kernel
theorem dX11_decades_59 : decode cX11_decades 59 = .ok (.ifCond .ne 13, 3) := by decide +kernel
theorem dX11_decades_62 : decode cX11_decades 62 = .ok (.aload_n 0, 1) := by decide +kernel
theorem dX11_decades_63 : decode cX11_decades 63 = .ok (.getfield 67, 3) := by decide +kernel
theorem dX11_decades_66 : decode cX11_decades 66 = .ok (.getfield 242, 3) := by decide +kernel
theorem dX11_decades_69 : decode cX11_decades 69 = .ok (.goto 10, 3) := by decide +kernel
theorem dX11_decades_72 : decode cX11_decades 72 = .ok (.aload_n 0, 1) := by decide +kernel
theorem dX11_decades_73 : decode cX11_decades 73 = .ok (.getfield 67, 3) := by decide +kernel
theorem dX11_decades_76 : decode cX11_decades 76 = .ok (.getfield 245, 3) := by decide +kernel
theorem dX11_decades_79 : decode cX11_decades 79 = .ok (.ireturn, 1) := by decide +kernel
theorem dX11_sheet_0 : decode cX11_sheet 0 = .ok (.iload_n 1, 1) := by decide +kernel
theorem dX11_sheet_1 : decode cX11_sheet 1 = .ok (.invokestatic 248, 3) := by decide +kernel
theorem dX11_sheet_4 : decode cX11_sheet 4 = .ok (.ifCond .eq 16, 3) := by decide +kernel
theorem dX11_sheet_7 : decode cX11_sheet 7 = .ok (.iload_n 2, 1) := by decide +kernel
theorem dX11_sheet_8 : decode cX11_sheet 8 = .ok (.invokestatic 251, 3) := by decide +kernel
theorem dX11_sheet_11 : decode cX11_sheet 11 = .ok (.ifCond .eq 9, 3) := by decide +kernel
theorem dX11_sheet_14 : decode cX11_sheet 14 = .ok (.iload_n 3, 1) := by decide +kernel
theorem dX11_sheet_15 : decode cX11_sheet 15 = .ok (.bipush 24, 2) := by decide +kernel
theorem dX11_sheet_17 : decode cX11_sheet 17 = .ok (.if_icmp .le 5, 3) := by decide +kernel
theorem dX11_sheet_20 : decode cX11_sheet 20 = .ok (.iconst (-1), 1) := by decide +kernel
theorem dX11_sheet_21 : decode cX11_sheet 21 = .ok (.ireturn, 1) := by decide +kernel
theorem dX11_sheet_22 : decode cX11_sheet 22 = .ok (.iload_n 3, 1) := by decide +kernel
theorem dX11_sheet_23 : decode cX11_sheet 23 = .ok (.ifCond .ge 6, 3) := by decide +kernel
theorem dX11_sheet_26 : decode cX11_sheet 26 = .ok (.bipush (-14), 2) := by decide +kernel
theorem dX11_sheet_28 : decode cX11_sheet 28 = .ok (.ireturn, 1) := by decide +kernel
theorem dX11_sheet_29 : decode cX11_sheet 29 = .ok (.aload_n 0, 1) := by decide +kernel
theorem dX11_sheet_30 : decode cX11_sheet 30 = .ok (.getfield 45, 3) := by decide +kernel
theorem dX11_sheet_33 : decode cX11_sheet 33 = .ok (.iload_n 1, 1) := by decide +kernel
theorem dX11_sheet_34 : decode cX11_sheet 34 = .ok (.aaload, 1) := by decide +kernel
theorem dX11_sheet_35 : decode cX11_sheet 35 = .ok (.iload_n 2, 1) := by decide +kernel
theorem dX11_sheet_36 : decode cX11_sheet 36 = .ok (.iload_n 3, 1) := by decide +kernel
theorem dX11_sheet_37 : decode cX11_sheet 37 = .ok (.invokevirtual 254, 3) := by decide +kernel
theorem dX11_sheet_40 : decode cX11_sheet 40 = .ok (.iload_n 3, 1) := by decide +kernel
theorem dX11_sheet_41 : decode cX11_sheet 41 = .ok (.ireturn, 1) := by decide +kernel
theorem dX11_drop_0 : decode cX11_drop 0 = .ok (.iload_n 1, 1) := by decide +kernel
theorem dX11_drop_1 : decode cX11_drop 1 = .ok (.invokestatic 248, 3) := by decide +kernel
theorem dX11_drop_4 : decode cX11_drop 4 = .ok (.ifCond .ne 5, 3) := by decide +kernel
theorem dX11_drop_7 : decode cX11_drop 7 = .ok (.iconst (-1), 1) := by decide +kernel
theorem dX11_drop_8 : decode cX11_drop 8 = .ok (.ireturn, 1) := by decide +kernel
theorem dX11_drop_9 : decode cX11_drop 9 = .ok (.aload_n 0, 1) := by decide +kernel
theorem dX11_drop_10 : decode cX11_drop 10 = .ok (.getfield 45, 3) := by decide +kernel
theorem dX11_drop_13 : decode cX11_drop 13 = .ok (.iload_n 1, 1) := by decide +kernel
theorem dX11_drop_14 : decode cX11_drop 14 = .ok (.aaload, 1) := by decide +kernel
theorem dX11_drop_15 : decode cX11_drop 15 = .ok (.invokevirtual 258, 3) := by decide +kernel
theorem dX11_drop_18 : decode cX11_drop 18 = .ok (.ifCond .eq 6, 3) := by decide +kernel
theorem dX11_drop_21 : decode cX11_drop 21 = .ok (.bipush (-11), 2) := by decide +kernel
theorem dX11_drop_23 : decode cX11_drop 23 = .ok (.ireturn, 1) := by decide +kernel
theorem dX11_drop_24 : decode cX11_drop 24 = .ok (.aload_n 0, 1) := by decide +kernel
theorem dX11_drop_25 : decode cX11_drop 25 = .ok (.getfield 45, 3) := by decide +kernel
theorem dX11_drop_28 : decode cX11_drop 28 = .ok (.iload_n 1, 1) := by decide +kernel
theorem dX11_drop_29 : decode cX11_drop 29 = .ok (.aaload, 1) := by decide +kernel
theorem dX11_drop_30 : decode cX11_drop 30 = .ok (.invokevirtual 261, 3) := by decide +kernel
theorem dX11_drop_33 : decode cX11_drop 33 = .ok (.ireturn, 1) := by decide +kernel
theorem dX11_item_0 : decode cX11_item 0 = .ok (.iload_n 1, 1) := by decide +kernel
theorem dX11_item_1 : decode cX11_item 1 = .ok (.invokestatic 248, 3) := by decide +kernel
theorem dX11_item_4 : decode cX11_item 4 = .ok (.ifCond .eq 10, 3) := by decide +kernel
theorem dX11_item_7 : decode cX11_item 7 = .ok (.iload_n 2, 1) := by decide +kernel
theorem dX11_item_8 : decode cX11_item 8 = .ok (.invokestatic 251, 3) := by decide +kernel
theorem dX11_item_11 : decode cX11_item 11 = .ok (.ifCond .ne 7, 3) := by decide +kernel
theorem dX11_item_14 : decode cX11_item 14 = .ok (.ldc2_w 265, 3) := by decide +kernel
theorem dX11_item_17 : decode cX11_item 17 = .ok (.lreturn, 1) := by decide +kernel
theorem dX11_item_18 : decode cX11_item 18 = .ok (.aload_n 0, 1) := by decide +kernel
theorem dX11_item_19 : decode cX11_item 19 = .ok (.getfield 45, 3) := by decide +kernel
theorem dX11_item_22 : decode cX11_item 22 = .ok (.iload_n 1, 1) := by decide +kernel
theorem dX11_item_23 : decode cX11_item 23 = .ok (.aaload, 1) := by decide +kernel
theorem dX11_item_24 : decode cX11_item 24 = .ok (.iload_n 2, 1) := by decide +kernel
theorem dX11_item_25 : decode cX11_item 25 = .ok (.iload_n 3, 1) := by decide +kernel
theorem dX11_item_26 : decode cX11_item 26 = .ok (.iconst 1, 1) := by decide +kernel
theorem dX11_item_27 : decode cX11_item 27 = .ok (.invokevirtual 267, 3) := by decide +kernel
theorem dX11_item_30 : decode cX11_item 30 = .ok (.istore 6, 2) := by decide +kernel
theorem dX11_item_32 : decode cX11_item 32 = .ok (.iload 6, 2) := by decide +kernel
theorem dX11_item_34 : decode cX11_item 34 = .ok (.ifCond .eq 7, 3) := by decide +kernel
theorem dX11_item_37 : decode cX11_item 37 = .ok (.iload 6, 2) := by decide +kernel
theorem dX11_item_39 : decode cX11_item 39 = .ok (.i2l, 1) := by decide +kernel
theorem dX11_item_40 : decode cX11_item 40 = .ok (.lreturn, 1) := by decide +kernel
theorem dX11_item_41 : decode cX11_item 41 = .ok (.aload_n 0, 1) := by decide +kernel
theorem dX11_item_42 : decode cX11_item 42 = .ok (.getfield 45, 3) := by decide +kernel
theorem dX11_item_45 : decode cX11_item 45 = .ok (.iload_n 1, 1) := by decide +kernel
theorem dX11_item_46 : decode cX11_item 46 = .ok (.aaload, 1) := by decide +kernel
theorem dX11_item_47 : decode cX11_item 47 = .ok (.iload_n 3, 1) := by decide +kernel
theorem dX11_item_48 : decode cX11_item 48 = .ok (.lload 4, 2) := by decide +kernel
theorem dX11_item_50 : decode cX11_item 50 = .ok (.invokevirtual 270, 3) := by decide +kernel
theorem dX11_item_53 : decode cX11_item 53 = .ok (.lreturn, 1) := by decide +kernel
theorem dX11_copy_0 : decode cX11_copy 0 = .ok (.iload_n 1, 1) := by decide +kernel
theorem dX11_copy_1 : decode cX11_copy 1 = .ok (.invokestatic 248, 3) := by decide +kernel
theorem dX11_copy_4 : decode cX11_copy 4 = .ok (.ifCond .eq 10, 3) := by decide +kernel
theorem dX11_copy_7 : decode cX11_copy 7 = .ok (.iload_n 3, 1) := by decide +kernel
theorem dX11_copy_8 : decode cX11_copy 8 = .ok (.invokestatic 248, 3) := by decide +kernel
theorem dX11_copy_11 : decode cX11_copy 11 = .ok (.ifCond .ne 5, 3) := by decide +kernel
theorem dX11_copy_14 : decode cX11_copy 14 = .ok (.iconst (-1), 1) := by decide +kernel
theorem dX11_copy_15 : decode cX11_copy 15 = .ok (.ireturn, 1) := by decide +kernel
theorem dX11_copy_16 : decode cX11_copy 16 = .ok (.aload_n 0, 1) := by decide +kernel
theorem dX11_copy_17 : decode cX11_copy 17 = .ok (.getfield 45, 3) := by decide +kernel
theorem dX11_copy_20 : decode cX11_copy 20 = .ok (.iload_n 1, 1) := by decide +kernel
theorem dX11_copy_21 : decode cX11_copy 21 = .ok (.aaload, 1) := by decide +kernel
theorem dX11_copy_22 : decode cX11_copy 22 = .ok (.astore 6, 2) := by decide +kernel
theorem dX11_copy_24 : decode cX11_copy 24 = .ok (.aload_n 0, 1) := by decide +kernel
theorem dX11_copy_25 : decode cX11_copy 25 = .ok (.getfield 45, 3) := by decide +kernel
theorem dX11_copy_28 : decode cX11_copy 28 = .ok (.iload_n 3, 1) := by decide +kernel
theorem dX11_copy_29 : decode cX11_copy 29 = .ok (.aaload, 1) := by decide +kernel
theorem dX11_copy_30 : decode cX11_copy 30 = .ok (.astore 7, 2) := by decide +kernel
theorem dX11_copy_32 : decode cX11_copy 32 = .ok (.aload 6, 2) := by decide +kernel
theorem dX11_copy_34 : decode cX11_copy 34 = .ok (.invokevirtual 258, 3) := by decide +kernel
theorem dX11_copy_37 : decode cX11_copy 37 = .ok (.ifCond .ne 11, 3) := by decide +kernel
theorem dX11_copy_40 : decode cX11_copy 40 = .ok (.aload 7, 2) := by decide +kernel
theorem dX11_copy_42 : decode cX11_copy 42 = .ok (.invokevirtual 258, 3) := by decide +kernel
theorem dX11_copy_45 : decode cX11_copy 45 = .ok (.ifCond .eq 6, 3) := by decide +kernel
theorem dX11_copy_48 : decode cX11_copy 48 = .ok (.bipush (-11), 2) := by decide +kernel
theorem dX11_copy_50 : decode cX11_copy 50 = .ok (.ireturn, 1) := by decide +kernel
theorem dX11_copy_51 : decode cX11_copy 51 = .ok (.aload 6, 2) := by decide +kernel
theorem dX11_copy_53 : decode cX11_copy 53 = .ok (.getfield 273, 3) := by decide +kernel
theorem dX11_copy_56 : decode cX11_copy 56 = .ok (.aload 7, 2) := by decide +kernel
theorem dX11_copy_58 : decode cX11_copy 58 = .ok (.getfield 273, 3) := by decide +kernel
theorem dX11_copy_61 : decode cX11_copy 61 = .ok (.if_icmp .eq 6, 3) := by decide +kernel
theorem dX11_copy_64 : decode cX11_copy 64 = .ok (.bipush (-12), 2) := by decide +kernel
theorem dX11_copy_66 : decode cX11_copy 66 = .ok (.ireturn, 1) := by decide +kernel
theorem dX11_copy_67 : decode cX11_copy 67 = .ok (.aload 6, 2) := by decide +kernel
theorem dX11_copy_69 : decode cX11_copy 69 = .ok (.iload_n 2, 1) := by decide +kernel
theorem dX11_copy_70 : decode cX11_copy 70 = .ok (.iload 5, 2) := by decide +kernel
theorem dX11_copy_72 : decode cX11_copy 72 = .ok (.invokevirtual 276, 3) := by decide +kernel
theorem dX11_copy_75 : decode cX11_copy 75 = .ok (.ifCond .eq 15, 3) := by decide +kernel
theorem dX11_copy_78 : decode cX11_copy 78 = .ok (.aload 7, 2) := by decide +kernel
theorem dX11_copy_80 : decode cX11_copy 80 = .ok (.iload 4, 2) := by decide +kernel
theorem dX11_copy_82 : decode cX11_copy 82 = .ok (.iload 5, 2) := by decide +kernel
theorem dX11_copy_84 : decode cX11_copy 84 = .ok (.invokevirtual 276, 3) := by decide +kernel
theorem dX11_copy_87 : decode cX11_copy 87 = .ok (.ifCond .ne 6, 3) := by decide +kernel
theorem dX11_copy_90 : decode cX11_copy 90 = .ok (.bipush (-13), 2) := by decide +kernel
theorem dX11_copy_92 : decode cX11_copy 92 = .ok (.ireturn, 1) := by decide +kernel
theorem dX11_copy_93 : decode cX11_copy 93 = .ok (.aload 6, 2) := by decide +kernel
theorem dX11_copy_95 : decode cX11_copy 95 = .ok (.getfield 279, 3) := by decide +kernel
theorem dX11_copy_98 : decode cX11_copy 98 = .ok (.iload_n 2, 1) := by decide +kernel
theorem dX11_copy_99 : decode cX11_copy 99 = .ok (.aload 7, 2) := by decide +kernel
theorem dX11_copy_101 : decode cX11_copy 101 = .ok (.getfield 279, 3) := by decide +kernel
theorem dX11_copy_104 : decode cX11_copy 104 = .ok (.iload 4, 2) := by decide +kernel
theorem dX11_copy_106 : decode cX11_copy 106 = .ok (.iload 5, 2) := by decide +kernel
theorem dX11_copy_108 : decode cX11_copy 108 = .ok (.invokestatic 283, 3) := by decide +kernel
theorem dX11_copy_111 : decode cX11_copy 111 = .ok (.iload 5, 2) := by decide +kernel
theorem dX11_copy_113 : decode cX11_copy 113 = .ok (.ireturn, 1) := by decide +kernel
theorem dX11_log_0 : decode cX11_log 0 = .ok (.aload_n 0, 1) := by decide +kernel
theorem dX11_log_1 : decode cX11_log 1 = .ok (.getfield 28, 3) := by decide +kernel
theorem dX11_log_4 : decode cX11_log 4 = .ok (.invokevirtual 192, 3) := by decide +kernel
theorem dX11_log_7 : decode cX11_log 7 = .ok (.ifCond .eq 17, 3) := by decide +kernel
theorem dX11_log_10 : decode cX11_log 10 = .ok (.iload_n 1, 1) := by decide +kernel
theorem dX11_log_11 : decode cX11_log 11 = .ok (.invokestatic 248, 3) := by decide +kernel
theorem dX11_log_14 : decode cX11_log 14 = .ok (.ifCond .eq 10, 3) := by decide +kernel
theorem dX11_log_17 : decode cX11_log 17 = .ok (.iload_n 2, 1) := by decide +kernel
theorem dX11_log_18 : decode cX11_log 18 = .ok (.invokestatic 251, 3) := by decide +kernel
theorem dX11_log_21 : decode cX11_log 21 = .ok (.ifCond .ne 5, 3) := by decide +kernel
theorem dX11_log_24 : decode cX11_log 24 = .ok (.iconst (-1), 1) := by decide +kernel
theorem dX11_log_25 : decode cX11_log 25 = .ok (.ireturn, 1) := by decide +kernel
theorem dX11_log_26 : decode cX11_log 26 = .ok (.aload_n 0, 1) := by decide +kernel
theorem dX11_log_27 : decode cX11_log 27 = .ok (.getfield 45, 3) := by decide +kernel
theorem dX11_log_30 : decode cX11_log 30 = .ok (.iload_n 1, 1) := by decide +kernel
theorem dX11_log_31 : decode cX11_log 31 = .ok (.aaload, 1) := by decide +kernel
theorem dX11_log_32 : decode cX11_log 32 = .ok (.iload_n 2, 1) := by decide +kernel
theorem dX11_log_33 : decode cX11_log 33 = .ok (.iload_n 3, 1) := by decide +kernel
theorem dX11_log_34 : decode cX11_log 34 = .ok (.aload_n 0, 1) := by decide +kernel
theorem dX11_log_35 : decode cX11_log 35 = .ok (.getfield 28, 3) := by decide +kernel
theorem dX11_log_38 : decode cX11_log 38 = .ok (.getfield 107, 3) := by decide +kernel
theorem dX11_log_41 : decode cX11_log 41 = .ok (.invokevirtual 267, 3) := by decide +kernel
theorem dX11_log_44 : decode cX11_log 44 = .ok (.istore 4, 2) := by decide +kernel
theorem dX11_log_46 : decode cX11_log 46 = .ok (.iload 4, 2) := by decide +kernel
theorem dX11_log_48 : decode cX11_log 48 = .ok (.ifCond .eq 6, 3) := by decide +kernel
theorem dX11_log_51 : decode cX11_log 51 = .ok (.iload 4, 2) := by decide +kernel
theorem dX11_log_53 : decode cX11_log 53 = .ok (.ireturn, 1) := by decide +kernel
theorem dX11_log_54 : decode cX11_log 54 = .ok (.iconst 0, 1) := by decide +kernel
theorem dX11_log_55 : decode cX11_log 55 = .ok (.istore 5, 2) := by decide +kernel
theorem dX11_log_57 : decode cX11_log 57 = .ok (.iload 5, 2) := by decide +kernel
theorem dX11_log_59 : decode cX11_log 59 = .ok (.aload_n 0, 1) := by decide +kernel
theorem dX11_log_60 : decode cX11_log 60 = .ok (.getfield 28, 3) := by decide +kernel
theorem dX11_log_63 : decode cX11_log 63 = .ok (.getfield 107, 3) := by decide +kernel
theorem dX11_log_66 : decode cX11_log 66 = .ok (.if_icmp .ge 37, 3) := by decide +kernel
theorem dX11_log_69 : decode cX11_log 69 = .ok (.aload_n 0, 1) := by decide +kernel
theorem dX11_log_70 : decode cX11_log 70 = .ok (.getfield 45, 3) := by decide +kernel
theorem dX11_log_73 : decode cX11_log 73 = .ok (.iload_n 1, 1) := by decide +kernel
theorem dX11_log_74 : decode cX11_log 74 = .ok (.aaload, 1) := by decide +kernel
theorem dX11_log_75 : decode cX11_log 75 = .ok (.iload_n 3, 1) := by decide +kernel
theorem dX11_log_76 : decode cX11_log 76 = .ok (.iload 5, 2) := by decide +kernel
theorem dX11_log_78 : decode cX11_log 78 = .ok (.iadd, 1) := by decide +kernel
theorem dX11_log_79 : decode cX11_log 79 = .ok (.aload_n 0, 1) := by decide +kernel
theorem dX11_log_80 : decode cX11_log 80 = .ok (.getfield 28, 3) := by decide +kernel
theorem dX11_log_83 : decode cX11_log 83 = .ok (.getfield 113, 3) := by decide +kernel
theorem dX11_log_86 : decode cX11_log 86 = .ok (.iload 5, 2) := by decide +kernel
theorem dX11_log_88 : decode cX11_log 88 = .ok (.iaload, 1) := by decide +kernel
theorem dX11_log_89 : decode cX11_log 89 = .ok (.invokestatic 128, 3) := by decide +kernel
theorem dX11_log_92 : decode cX11_log 92 = .ok (.i2l, 1) := by decide +kernel
theorem dX11_log_93 : decode cX11_log 93 = .ok (.invokevirtual 270, 3) := by decide +kernel
theorem dX11_log_96 : decode cX11_log 96 = .ok (.pop2, 1) := by decide +kernel
theorem dX11_log_97 : decode cX11_log 97 = .ok (.iinc 5 1, 3) := by decide +kernel
theorem dX11_log_100 : decode cX11_log 100 = .ok (.goto (-43), 3) := by decide +kernel
theorem dX11_log_103 : decode cX11_log 103 = .ok (.aload_n 0, 1) := by decide +kernel
theorem dX11_log_104 : decode cX11_log 104 = .ok (.getfield 28, 3) := by decide +kernel
theorem dX11_log_107 : decode cX11_log 107 = .ok (.getfield 107, 3) := by decide +kernel
theorem dX11_log_110 : decode cX11_log 110 = .ok (.ireturn, 1) := by decide +kernel
theorem dX11_ahead_0 : decode cX11_ahead 0 = .ok (.aload_n 0, 1) := by decide +kernel
theorem dX11_ahead_1 : decode cX11_ahead 1 = .ok (.getfield 28, 3) := by decide +kernel
theorem dX11_ahead_4 : decode cX11_ahead 4 = .ok (.iload_n 1, 1) := by decide +kernel
theorem dX11_ahead_5 : decode cX11_ahead 5 = .ok (.invokevirtual 110, 3) := by decide +kernel
theorem dX11_ahead_8 : decode cX11_ahead 8 = .ok (.ifCond .eq 19, 3) := by decide +kernel
theorem dX11_ahead_11 : decode cX11_ahead 11 = .ok (.iload 5, 2) := by decide +kernel
theorem dX11_ahead_13 : decode cX11_ahead 13 = .ok (.ifCond .lt 14, 3) := by decide +kernel
theorem dX11_ahead_16 : decode cX11_ahead 16 = .ok (.iload 6, 2) := by decide +kernel
theorem dX11_ahead_18 : decode cX11_ahead 18 = .ok (.ifCond .lt 9, 3) := by decide +kernel
theorem dX11_ahead_21 : decode cX11_ahead 21 = .ok (.iload 6, 2) := by decide +kernel
theorem dX11_ahead_23 : decode cX11_ahead 23 = .ok (.iconst 2, 1) := by decide +kernel
theorem dX11_ahead_24 : decode cX11_ahead 24 = .ok (.if_icmp .le 5, 3) := by decide +kernel
theorem dX11_ahead_27 : decode cX11_ahead 27 = .ok (.iconst (-1), 1) := by decide +kernel
theorem dX11_ahead_28 : decode cX11_ahead 28 = .ok (.ireturn, 1) := by decide +kernel
theorem dX11_ahead_29 : decode cX11_ahead 29 = .ok (.aload_n 0, 1) := by decide +kernel
theorem dX11_ahead_30 : decode cX11_ahead 30 = .ok (.iload_n 2, 1) := by decide +kernel
theorem dX11_ahead_31 : decode cX11_ahead 31 = .ok (.iload_n 3, 1) := by decide +kernel
theorem dX11_ahead_32 : decode cX11_ahead 32 = .ok (.iload 4, 2) := by decide +kernel
theorem dX11_ahead_34 : decode cX11_ahead 34 = .ok (.iload 5, 2) := by decide +kernel
theorem dX11_ahead_36 : decode cX11_ahead 36 = .ok (.invokevirtual 289, 3) := by decide +kernel
theorem dX11_ahead_39 : decode cX11_ahead 39 = .ok (.istore 7, 2) := by decide +kernel
theorem dX11_ahead_41 : decode cX11_ahead 41 = .ok (.iload 7, 2) := by decide +kernel
theorem dX11_ahead_43 : decode cX11_ahead 43 = .ok (.ifCond .eq 6, 3) := by decide +kernel
theorem dX11_ahead_46 : decode cX11_ahead 46 = .ok (.iload 7, 2) := by decide +kernel
theorem dX11_ahead_48 : decode cX11_ahead 48 = .ok (.ireturn, 1) := by decide +kernel
theorem dX11_ahead_49 : decode cX11_ahead 49 = .ok (.aload_n 0, 1) := by decide +kernel
theorem dX11_ahead_50 : decode cX11_ahead 50 = .ok (.getfield 28, 3) := by decide +kernel
theorem dX11_ahead_53 : decode cX11_ahead 53 = .ok (.iload_n 1, 1) := by decide +kernel
theorem dX11_ahead_54 : decode cX11_ahead 54 = .ok (.aload_n 0, 1) := by decide +kernel
theorem dX11_ahead_55 : decode cX11_ahead 55 = .ok (.getfield 28, 3) := by decide +kernel
theorem dX11_ahead_58 : decode cX11_ahead 58 = .ok (.getfield 113, 3) := by decide +kernel
theorem dX11_ahead_61 : decode cX11_ahead 61 = .ok (.iload_n 1, 1) := by decide +kernel
theorem dX11_ahead_62 : decode cX11_ahead 62 = .ok (.iaload, 1) := by decide +kernel
theorem dX11_ahead_63 : decode cX11_ahead 63 = .ok (.aload_n 0, 1) := by decide +kernel
theorem dX11_ahead_64 : decode cX11_ahead 64 = .ok (.getfield 78, 3) := by decide +kernel
theorem dX11_ahead_67 : decode cX11_ahead 67 = .ok (.iload 5, 2) := by decide +kernel
theorem dX11_ahead_69 : decode cX11_ahead 69 = .ok (.invokevirtual 292, 3) := by decide +kernel
theorem dX11_ahead_72 : decode cX11_ahead 72 = .ok (.istore 8, 2) := by decide +kernel
theorem dX11_ahead_74 : decode cX11_ahead 74 = .ok (.iload 6, 2) := by decide +kernel
theorem dX11_ahead_76 : decode cX11_ahead 76 = .ok (.lookupswitch 40 #[(0, 28), (1, 34)], 28) := by decide +kernel
theorem dX11_ahead_104 : decode cX11_ahead 104 = .ok (.iload 8, 2) := by decide +kernel
theorem dX11_ahead_106 : decode cX11_ahead 106 = .ok (.invokestatic 128, 3) := by decide +kernel
theorem dX11_ahead_109 : decode cX11_ahead 109 = .ok (.ireturn, 1) := by decide +kernel
theorem dX11_ahead_110 : decode cX11_ahead 110 = .ok (.iload 8, 2) := by decide +kernel
theorem dX11_ahead_112 : decode cX11_ahead 112 = .ok (.invokestatic 131, 3) := by decide +kernel
theorem dX11_ahead_115 : decode cX11_ahead 115 = .ok (.ireturn, 1) := by decide +kernel
theorem dX11_ahead_116 : decode cX11_ahead 116 = .ok (.iload 8, 2) := by decide +kernel
theorem dX11_ahead_118 : decode cX11_ahead 118 = .ok (.invokestatic 122, 3) := by decide +kernel
theorem dX11_ahead_121 : decode cX11_ahead 121 = .ok (.ireturn, 1) := by decide +kernel
theorem dX11_round_0 : decode cX11_round 0 = .ok (.aload_n 0, 1) := by decide +kernel
theorem dX11_round_1 : decode cX11_round 1 = .ok (.getfield 28, 3) := by decide +kernel
theorem dX11_round_4 : decode cX11_round 4 = .ok (.invokevirtual 192, 3) := by decide +kernel
theorem dX11_round_7 : decode cX11_round 7 = .ok (.ifCond .eq 20, 3) := by decide +kernel
theorem dX11_round_10 : decode cX11_round 10 = .ok (.iload 4, 2) := by decide +kernel
theorem dX11_round_12 : decode cX11_round 12 = .ok (.iconst 1, 1) := by decide +kernel
theorem dX11_round_13 : decode cX11_round 13 = .ok (.if_icmp .lt 14, 3) := by decide +kernel
theorem dX11_round_16 : decode cX11_round 16 = .ok (.iload 5, 2) := by decide +kernel
theorem dX11_round_18 : decode cX11_round 18 = .ok (.ifCond .lt 9, 3) := by decide +kernel
theorem dX11_round_21 : decode cX11_round 21 = .ok (.iload 5, 2) := by decide +kernel
theorem dX11_round_23 : decode cX11_round 23 = .ok (.iconst 1, 1) := by decide +kernel
theorem dX11_round_24 : decode cX11_round 24 = .ok (.if_icmp .le 5, 3) := by decide +kernel
theorem dX11_round_27 : decode cX11_round 27 = .ok (.iconst (-1), 1) := by decide +kernel
theorem dX11_round_28 : decode cX11_round 28 = .ok (.ireturn, 1) := by decide +kernel
theorem dX11_round_29 : decode cX11_round 29 = .ok (.aload_n 0, 1) := by decide +kernel
theorem dX11_round_30 : decode cX11_round 30 = .ok (.iload_n 1, 1) := by decide +kernel
theorem dX11_round_31 : decode cX11_round 31 = .ok (.iload_n 2, 1) := by decide +kernel
theorem dX11_round_32 : decode cX11_round 32 = .ok (.iload_n 3, 1) := by decide +kernel
theorem dX11_round_33 : decode cX11_round 33 = .ok (.iload 4, 2) := by decide +kernel
theorem dX11_round_35 : decode cX11_round 35 = .ok (.invokevirtual 289, 3) := by decide +kernel
theorem dX11_round_38 : decode cX11_round 38 = .ok (.istore 6, 2) := by decide +kernel
theorem dX11_round_40 : decode cX11_round 40 = .ok (.iload 6, 2) := by decide +kernel
theorem dX11_round_42 : decode cX11_round 42 = .ok (.ifCond .eq 6, 3) := by decide +kernel
theorem dX11_round_45 : decode cX11_round 45 = .ok (.iload 6, 2) := by decide +kernel
theorem dX11_round_47 : decode cX11_round 47 = .ok (.ireturn, 1) := by decide +kernel
theorem dX11_round_48 : decode cX11_round 48 = .ok (.aload_n 0, 1) := by decide +kernel
theorem dX11_round_49 : decode cX11_round 49 = .ok (.getfield 74, 3) := by decide +kernel
theorem dX11_round_52 : decode cX11_round 52 = .ok (.aload_n 0, 1) := by decide +kernel
theorem dX11_round_53 : decode cX11_round 53 = .ok (.getfield 28, 3) := by decide +kernel
theorem dX11_round_56 : decode cX11_round 56 = .ok (.aload_n 0, 1) := by decide +kernel
theorem dX11_round_57 : decode cX11_round 57 = .ok (.getfield 78, 3) := by decide +kernel
theorem dX11_round_60 : decode cX11_round 60 = .ok (.iload 4, 2) := by decide +kernel
theorem dX11_round_62 : decode cX11_round 62 = .ok (.invokevirtual 296, 3) := by decide +kernel
theorem dX11_round_65 : decode cX11_round 65 = .ok (.iload 5, 2) := by decide +kernel
theorem dX11_round_67 : decode cX11_round 67 = .ok (.ifCond .ne 13, 3) := by decide +kernel
theorem dX11_round_70 : decode cX11_round 70 = .ok (.aload_n 0, 1) := by decide +kernel
theorem dX11_round_71 : decode cX11_round 71 = .ok (.getfield 74, 3) := by decide +kernel
theorem dX11_round_74 : decode cX11_round 74 = .ok (.getfield 300, 3) := by decide +kernel
theorem dX11_round_77 : decode cX11_round 77 = .ok (.goto 10, 3) := by decide +kernel
theorem dX11_round_80 : decode cX11_round 80 = .ok (.aload_n 0, 1) := by decide +kernel
theorem dX11_round_81 : decode cX11_round 81 = .ok (.getfield 74, 3) := by decide +kernel
theorem dX11_round_84 : decode cX11_round 84 = .ok (.getfield 303, 3) := by decide +kernel
theorem dX11_round_87 : decode cX11_round 87 = .ok (.ireturn, 1) := by decide +kernel
theorem dX11_kinds_0 : decode cX11_kinds 0 = .ok (.iload_n 1, 1) := by decide +kernel
theorem dX11_kinds_1 : decode cX11_kinds 1 = .ok (.invokestatic 248, 3) := by decide +kernel
theorem dX11_kinds_4 : decode cX11_kinds 4 = .ok (.ifCond .eq 23, 3) := by decide +kernel
theorem dX11_kinds_7 : decode cX11_kinds 7 = .ok (.iload_n 2, 1) := by decide +kernel
theorem dX11_kinds_8 : decode cX11_kinds 8 = .ok (.invokestatic 251, 3) := by decide +kernel
theorem dX11_kinds_11 : decode cX11_kinds 11 = .ok (.ifCond .eq 16, 3) := by decide +kernel
theorem dX11_kinds_14 : decode cX11_kinds 14 = .ok (.iload 4, 2) := by decide +kernel
theorem dX11_kinds_16 : decode cX11_kinds 16 = .ok (.iconst 1, 1) := by decide +kernel
theorem dX11_kinds_17 : decode cX11_kinds 17 = .ok (.if_icmp .lt 10, 3) := by decide +kernel
theorem dX11_kinds_20 : decode cX11_kinds 20 = .ok (.iload 4, 2) := by decide +kernel
theorem dX11_kinds_22 : decode cX11_kinds 22 = .ok (.bipush 7, 2) := by decide +kernel
theorem dX11_kinds_24 : decode cX11_kinds 24 = .ok (.if_icmp .le 5, 3) := by decide +kernel
theorem dX11_kinds_27 : decode cX11_kinds 27 = .ok (.iconst (-1), 1) := by decide +kernel
theorem dX11_kinds_28 : decode cX11_kinds 28 = .ok (.ireturn, 1) := by decide +kernel
theorem dX11_kinds_29 : decode cX11_kinds 29 = .ok (.iload 5, 2) := by decide +kernel
theorem dX11_kinds_31 : decode cX11_kinds 31 = .ok (.iconst (-1), 1) := by decide +kernel
theorem dX11_kinds_32 : decode cX11_kinds 32 = .ok (.if_icmp .lt 10, 3) := by decide +kernel
theorem dX11_kinds_35 : decode cX11_kinds 35 = .ok (.iload 5, 2) := by decide +kernel
theorem dX11_kinds_37 : decode cX11_kinds 37 = .ok (.bipush 9, 2) := by decide +kernel
theorem dX11_kinds_39 : decode cX11_kinds 39 = .ok (.if_icmp .le 5, 3) := by decide +kernel
theorem dX11_kinds_42 : decode cX11_kinds 42 = .ok (.iconst (-1), 1) := by decide +kernel
theorem dX11_kinds_43 : decode cX11_kinds 43 = .ok (.ireturn, 1) := by decide +kernel
theorem dX11_kinds_44 : decode cX11_kinds 44 = .ok (.aload_n 0, 1) := by decide +kernel
theorem dX11_kinds_45 : decode cX11_kinds 45 = .ok (.getfield 45, 3) := by decide +kernel
theorem dX11_kinds_48 : decode cX11_kinds 48 = .ok (.iload_n 1, 1) := by decide +kernel
theorem dX11_kinds_49 : decode cX11_kinds 49 = .ok (.aaload, 1) := by decide +kernel
theorem dX11_kinds_50 : decode cX11_kinds 50 = .ok (.iload_n 2, 1) := by decide +kernel
theorem dX11_kinds_51 : decode cX11_kinds 51 = .ok (.iload_n 3, 1) := by decide +kernel
theorem dX11_kinds_52 : decode cX11_kinds 52 = .ok (.iload 4, 2) := by decide +kernel
theorem dX11_kinds_54 : decode cX11_kinds 54 = .ok (.iconst 3, 1) := by decide +kernel
theorem dX11_kinds_55 : decode cX11_kinds 55 = .ok (.imul, 1) := by decide +kernel
theorem dX11_kinds_56 : decode cX11_kinds 56 = .ok (.invokevirtual 267, 3) := by decide +kernel
theorem dX11_kinds_59 : decode cX11_kinds 59 = .ok (.istore 6, 2) := by decide +kernel
theorem dX11_kinds_61 : decode cX11_kinds 61 = .ok (.iload 6, 2) := by decide +kernel
theorem dX11_kinds_63 : decode cX11_kinds 63 = .ok (.ifCond .eq 6, 3) := by decide +kernel
theorem dX11_kinds_66 : decode cX11_kinds 66 = .ok (.iload 6, 2) := by decide +kernel
theorem dX11_kinds_68 : decode cX11_kinds 68 = .ok (.ireturn, 1) := by decide +kernel
theorem dX11_kinds_69 : decode cX11_kinds 69 = .ok (.aload_n 0, 1) := by decide +kernel
theorem dX11_kinds_70 : decode cX11_kinds 70 = .ok (.getfield 45, 3) := by decide +kernel
theorem dX11_kinds_73 : decode cX11_kinds 73 = .ok (.iload_n 1, 1) := by decide +kernel
theorem dX11_kinds_74 : decode cX11_kinds 74 = .ok (.aaload, 1) := by decide +kernel
theorem dX11_kinds_75 : decode cX11_kinds 75 = .ok (.iload_n 3, 1) := by decide +kernel
theorem dX11_kinds_76 : decode cX11_kinds 76 = .ok (.iload 4, 2) := by decide +kernel
theorem dX11_kinds_78 : decode cX11_kinds 78 = .ok (.invokestatic 306, 3) := by decide +kernel
theorem dX11_kinds_81 : decode cX11_kinds 81 = .ok (.ifCond .ne 6, 3) := by decide +kernel
theorem dX11_kinds_84 : decode cX11_kinds 84 = .ok (.bipush (-2), 2) := by decide +kernel
theorem dX11_kinds_86 : decode cX11_kinds 86 = .ok (.ireturn, 1) := by decide +kernel
theorem dX11_kinds_87 : decode cX11_kinds 87 = .ok (.aload_n 0, 1) := by decide +kernel
theorem dX11_kinds_88 : decode cX11_kinds 88 = .ok (.getfield 45, 3) := by decide +kernel
theorem dX11_kinds_91 : decode cX11_kinds 91 = .ok (.iload_n 1, 1) := by decide +kernel
theorem dX11_kinds_92 : decode cX11_kinds 92 = .ok (.aaload, 1) := by decide +kernel
theorem dX11_kinds_93 : decode cX11_kinds 93 = .ok (.iload_n 3, 1) := by decide +kernel
theorem dX11_kinds_94 : decode cX11_kinds 94 = .ok (.iload 4, 2) := by decide +kernel
theorem dX11_kinds_96 : decode cX11_kinds 96 = .ok (.invokestatic 310, 3) := by decide +kernel
theorem dX11_kinds_99 : decode cX11_kinds 99 = .ok (.istore 7, 2) := by decide +kernel
theorem dX11_kinds_101 : decode cX11_kinds 101 = .ok (.iload 5, 2) := by decide +kernel
theorem dX11_kinds_103 : decode cX11_kinds 103 = .ok (.iconst (-1), 1) := by decide +kernel
theorem dX11_kinds_104 : decode cX11_kinds 104 = .ok (.if_icmp .ne 6, 3) := by decide +kernel
theorem dX11_kinds_107 : decode cX11_kinds 107 = .ok (.iload 7, 2) := by decide +kernel
theorem dX11_kinds_109 : decode cX11_kinds 109 = .ok (.ireturn, 1) := by decide +kernel
theorem dX11_kinds_110 : decode cX11_kinds 110 = .ok (.iload 7, 2) := by decide +kernel
theorem dX11_kinds_112 : decode cX11_kinds 112 = .ok (.ifCond .ne 8, 3) := by decide +kernel
theorem dX11_kinds_115 : decode cX11_kinds 115 = .ok (.bipush (-4), 2) := by decide +kernel
theorem dX11_kinds_117 : decode cX11_kinds 117 = .ok (.goto 10, 3) := by decide +kernel
theorem dX11_kinds_120 : decode cX11_kinds 120 = .ok (.iload 7, 2) := by decide +kernel
theorem dX11_kinds_122 : decode cX11_kinds 122 = .ok (.iload 5, 2) := by decide +kernel
theorem dX11_kinds_124 : decode cX11_kinds 124 = .ok (.invokestatic 314, 3) := by decide +kernel
theorem dX11_kinds_127 : decode cX11_kinds 127 = .ok (.ireturn, 1) := by decide +kernel
theorem dX11_wishes_0 : decode cX11_wishes 0 = .ok (.aload_n 0, 1) := by decide +kernel
theorem dX11_wishes_1 : decode cX11_wishes 1 = .ok (.getfield 28, 3) := by decide +kernel
theorem dX11_wishes_4 : decode cX11_wishes 4 = .ok (.invokevirtual 192, 3) := by decide +kernel
theorem dX11_wishes_7 : decode cX11_wishes 7 = .ok (.ifCond .eq 17, 3) := by decide +kernel
theorem dX11_wishes_10 : decode cX11_wishes 10 = .ok (.iload_n 1, 1) := by decide +kernel
theorem dX11_wishes_11 : decode cX11_wishes 11 = .ok (.invokestatic 248, 3) := by decide +kernel
theorem dX11_wishes_14 : decode cX11_wishes 14 = .ok (.ifCond .eq 10, 3) := by decide +kernel
theorem dX11_wishes_17 : decode cX11_wishes 17 = .ok (.iload_n 2, 1) := by decide +kernel
theorem dX11_wishes_18 : decode cX11_wishes 18 = .ok (.invokestatic 251, 3) := by decide +kernel
theorem dX11_wishes_21 : decode cX11_wishes 21 = .ok (.ifCond .ne 5, 3) := by decide +kernel
theorem dX11_wishes_24 : decode cX11_wishes 24 = .ok (.iconst (-1), 1) := by decide +kernel
theorem dX11_wishes_25 : decode cX11_wishes 25 = .ok (.ireturn, 1) := by decide +kernel
theorem dX11_wishes_26 : decode cX11_wishes 26 = .ok (.aload_n 0, 1) := by decide +kernel
theorem dX11_wishes_27 : decode cX11_wishes 27 = .ok (.getfield 45, 3) := by decide +kernel
theorem dX11_wishes_30 : decode cX11_wishes 30 = .ok (.iload_n 1, 1) := by decide +kernel
theorem dX11_wishes_31 : decode cX11_wishes 31 = .ok (.aaload, 1) := by decide +kernel
theorem dX11_wishes_32 : decode cX11_wishes 32 = .ok (.iload_n 2, 1) := by decide +kernel
theorem dX11_wishes_33 : decode cX11_wishes 33 = .ok (.iload_n 3, 1) := by decide +kernel
theorem dX11_wishes_34 : decode cX11_wishes 34 = .ok (.aload_n 0, 1) := by decide +kernel
theorem dX11_wishes_35 : decode cX11_wishes 35 = .ok (.getfield 28, 3) := by decide +kernel
theorem dX11_wishes_38 : decode cX11_wishes 38 = .ok (.getfield 107, 3) := by decide +kernel
theorem dX11_wishes_41 : decode cX11_wishes 41 = .ok (.invokevirtual 267, 3) := by decide +kernel
theorem dX11_wishes_44 : decode cX11_wishes 44 = .ok (.istore 4, 2) := by decide +kernel
theorem dX11_wishes_46 : decode cX11_wishes 46 = .ok (.iload 4, 2) := by decide +kernel
theorem dX11_wishes_48 : decode cX11_wishes 48 = .ok (.ifCond .eq 6, 3) := by decide +kernel
theorem dX11_wishes_51 : decode cX11_wishes 51 = .ok (.iload 4, 2) := by decide +kernel
theorem dX11_wishes_53 : decode cX11_wishes 53 = .ok (.ireturn, 1) := by decide +kernel
theorem dX11_wishes_54 : decode cX11_wishes 54 = .ok (.iconst 0, 1) := by decide +kernel
theorem dX11_wishes_55 : decode cX11_wishes 55 = .ok (.istore 5, 2) := by decide +kernel
theorem dX11_wishes_57 : decode cX11_wishes 57 = .ok (.iconst 0, 1) := by decide +kernel
theorem dX11_wishes_58 : decode cX11_wishes 58 = .ok (.istore 6, 2) := by decide +kernel
theorem dX11_wishes_60 : decode cX11_wishes 60 = .ok (.iload 6, 2) := by decide +kernel
theorem dX11_wishes_62 : decode cX11_wishes 62 = .ok (.aload_n 0, 1) := by decide +kernel
theorem dX11_wishes_63 : decode cX11_wishes 63 = .ok (.getfield 28, 3) := by decide +kernel
theorem dX11_wishes_66 : decode cX11_wishes 66 = .ok (.getfield 107, 3) := by decide +kernel
theorem dX11_wishes_69 : decode cX11_wishes 69 = .ok (.if_icmp .ge 50, 3) := by decide +kernel
theorem dX11_wishes_72 : decode cX11_wishes 72 = .ok (.aload_n 0, 1) := by decide +kernel
theorem dX11_wishes_73 : decode cX11_wishes 73 = .ok (.getfield 45, 3) := by decide +kernel
theorem dX11_wishes_76 : decode cX11_wishes 76 = .ok (.iload_n 1, 1) := by decide +kernel
theorem dX11_wishes_77 : decode cX11_wishes 77 = .ok (.aaload, 1) := by decide +kernel
theorem dX11_wishes_78 : decode cX11_wishes 78 = .ok (.getfield 279, 3) := by decide +kernel
theorem dX11_wishes_81 : decode cX11_wishes 81 = .ok (.iload_n 3, 1) := by decide +kernel
theorem dX11_wishes_82 : decode cX11_wishes 82 = .ok (.iload 6, 2) := by decide +kernel
theorem dX11_wishes_84 : decode cX11_wishes 84 = .ok (.iadd, 1) := by decide +kernel
theorem dX11_wishes_85 : decode cX11_wishes 85 = .ok (.laload, 1) := by decide +kernel
theorem dX11_wishes_86 : decode cX11_wishes 86 = .ok (.aload_n 0, 1) := by decide +kernel
theorem dX11_wishes_87 : decode cX11_wishes 87 = .ok (.getfield 28, 3) := by decide +kernel
theorem dX11_wishes_90 : decode cX11_wishes 90 = .ok (.getfield 113, 3) := by decide +kernel
theorem dX11_wishes_93 : decode cX11_wishes 93 = .ok (.iload 6, 2) := by decide +kernel
theorem dX11_wishes_95 : decode cX11_wishes 95 = .ok (.iaload, 1) := by decide +kernel
theorem dX11_wishes_96 : decode cX11_wishes 96 = .ok (.invokestatic 128, 3) := by decide +kernel
theorem dX11_wishes_99 : decode cX11_wishes 99 = .ok (.i2l, 1) := by decide +kernel
theorem dX11_wishes_100 : decode cX11_wishes 100 = .ok (.lcmp, 1) := by decide +kernel
theorem dX11_wishes_101 : decode cX11_wishes 101 = .ok (.ifCond .ne 12, 3) := by decide +kernel
theorem dX11_wishes_104 : decode cX11_wishes 104 = .ok (.iload 5, 2) := by decide +kernel
theorem dX11_wishes_106 : decode cX11_wishes 106 = .ok (.iconst 1, 1) := by decide +kernel
theorem dX11_wishes_107 : decode cX11_wishes 107 = .ok (.iload 6, 2) := by decide +kernel
theorem dX11_wishes_109 : decode cX11_wishes 109 = .ok (.ishl, 1) := by decide +kernel
theorem dX11_wishes_110 : decode cX11_wishes 110 = .ok (.ior, 1) := by decide +kernel
theorem dX11_wishes_111 : decode cX11_wishes 111 = .ok (.istore 5, 2) := by decide +kernel
theorem dX11_wishes_113 : decode cX11_wishes 113 = .ok (.iinc 6 1, 3) := by decide +kernel
theorem dX11_wishes_116 : decode cX11_wishes 116 = .ok (.goto (-56), 3) := by decide +kernel
theorem dX11_wishes_119 : decode cX11_wishes 119 = .ok (.iload 5, 2) := by decide +kernel
theorem dX11_wishes_121 : decode cX11_wishes 121 = .ok (.ireturn, 1) := by decide +kernel
theorem dX11_count_0 : decode cX11_count 0 = .ok (.iload_n 1, 1) := by decide +kernel
theorem dX11_count_1 : decode cX11_count 1 = .ok (.tableswitch 137 0 8 #[51, 59, 67, 75, 83, 98, 106, 121, 129], 51) := by decide +kernel
theorem dX11_count_52 : decode cX11_count 52 = .ok (.aload_n 0, 1) := by decide +kernel
theorem dX11_count_53 : decode cX11_count 53 = .ok (.getfield 28, 3) := by decide +kernel
theorem dX11_count_56 : decode cX11_count 56 = .ok (.getfield 107, 3) := by decide +kernel
theorem dX11_count_59 : decode cX11_count 59 = .ok (.ireturn, 1) := by decide +kernel
theorem dX11_count_60 : decode cX11_count 60 = .ok (.aload_n 0, 1) := by decide +kernel
theorem dX11_count_61 : decode cX11_count 61 = .ok (.getfield 28, 3) := by decide +kernel
theorem dX11_count_64 : decode cX11_count 64 = .ok (.getfield 317, 3) := by decide +kernel
theorem dX11_count_67 : decode cX11_count 67 = .ok (.ireturn, 1) := by decide +kernel
theorem dX11_count_68 : decode cX11_count 68 = .ok (.aload_n 0, 1) := by decide +kernel
theorem dX11_count_69 : decode cX11_count 69 = .ok (.getfield 28, 3) := by decide +kernel
theorem dX11_count_72 : decode cX11_count 72 = .ok (.getfield 320, 3) := by decide +kernel
theorem dX11_count_75 : decode cX11_count 75 = .ok (.ireturn, 1) := by decide +kernel
theorem dX11_count_76 : decode cX11_count 76 = .ok (.aload_n 0, 1) := by decide +kernel
theorem dX11_count_77 : decode cX11_count 77 = .ok (.getfield 28, 3) := by decide +kernel
theorem dX11_count_80 : decode cX11_count 80 = .ok (.getfield 170, 3) := by decide +kernel
theorem dX11_count_83 : decode cX11_count 83 = .ok (.ireturn, 1) := by decide +kernel
theorem dX11_count_84 : decode cX11_count 84 = .ok (.aload_n 0, 1) := by decide +kernel
theorem dX11_count_85 : decode cX11_count 85 = .ok (.getfield 28, 3) := by decide +kernel
theorem dX11_count_88 : decode cX11_count 88 = .ok (.aload_n 0, 1) := by decide +kernel
theorem dX11_count_89 : decode cX11_count 89 = .ok (.getfield 28, 3) := by decide +kernel
theorem dX11_count_92 : decode cX11_count 92 = .ok (.getfield 113, 3) := by decide +kernel
theorem dX11_count_95 : decode cX11_count 95 = .ok (.invokevirtual 181, 3) := by decide +kernel
theorem dX11_count_98 : decode cX11_count 98 = .ok (.ireturn, 1) := by decide +kernel
theorem dX11_count_99 : decode cX11_count 99 = .ok (.aload_n 0, 1) := by decide +kernel
theorem dX11_count_100 : decode cX11_count 100 = .ok (.getfield 28, 3) := by decide +kernel
theorem dX11_count_103 : decode cX11_count 103 = .ok (.invokevirtual 323, 3) := by decide +kernel
theorem dX11_count_106 : decode cX11_count 106 = .ok (.ireturn, 1) := by decide +kernel
theorem dX11_count_107 : decode cX11_count 107 = .ok (.aload_n 0, 1) := by decide +kernel
theorem dX11_count_108 : decode cX11_count 108 = .ok (.getfield 28, 3) := by decide +kernel
theorem dX11_count_111 : decode cX11_count 111 = .ok (.aload_n 0, 1) := by decide +kernel
theorem dX11_count_112 : decode cX11_count 112 = .ok (.getfield 28, 3) := by decide +kernel
theorem dX11_count_115 : decode cX11_count 115 = .ok (.getfield 113, 3) := by decide +kernel
theorem dX11_count_118 : decode cX11_count 118 = .ok (.invokevirtual 326, 3) := by decide +kernel
theorem dX11_count_121 : decode cX11_count 121 = .ok (.ireturn, 1) := by decide +kernel
theorem dX11_count_122 : decode cX11_count 122 = .ok (.aload_n 0, 1) := by decide +kernel
theorem dX11_count_123 : decode cX11_count 123 = .ok (.getfield 35, 3) := by decide +kernel
theorem dX11_count_126 : decode cX11_count 126 = .ok (.getfield 189, 3) := by decide +kernel
theorem dX11_count_129 : decode cX11_count 129 = .ok (.ireturn, 1) := by decide +kernel
theorem dX11_count_130 : decode cX11_count 130 = .ok (.aload_n 0, 1) := by decide +kernel
theorem dX11_count_131 : decode cX11_count 131 = .ok (.getfield 10, 3) := by decide +kernel
theorem dX11_count_134 : decode cX11_count 134 = .ok (.getfield 86, 3) := by decide +kernel
theorem dX11_count_137 : decode cX11_count 137 = .ok (.ireturn, 1) := by decide +kernel
theorem dX11_count_138 : decode cX11_count 138 = .ok (.iconst (-1), 1) := by decide +kernel
theorem dX11_count_139 : decode cX11_count 139 = .ok (.ireturn, 1) := by decide +kernel
theorem dX11_isSheet_0 : decode cX11_isSheet 0 = .ok (.iload_n 0, 1) := by decide +kernel
theorem dX11_isSheet_1 : decode cX11_isSheet 1 = .ok (.ifCond .lt 12, 3) := by decide +kernel
theorem dX11_isSheet_4 : decode cX11_isSheet 4 = .ok (.iload_n 0, 1) := by decide +kernel
theorem dX11_isSheet_5 : decode cX11_isSheet 5 = .ok (.iconst 4, 1) := by decide +kernel
theorem dX11_isSheet_6 : decode cX11_isSheet 6 = .ok (.if_icmp .ge 7, 3) := by decide +kernel
theorem dX11_isSheet_9 : decode cX11_isSheet 9 = .ok (.iconst 1, 1) := by decide +kernel
theorem dX11_isSheet_10 : decode cX11_isSheet 10 = .ok (.goto 4, 3) := by decide +kernel
theorem dX11_isSheet_13 : decode cX11_isSheet 13 = .ok (.iconst 0, 1) := by decide +kernel
theorem dX11_isSheet_14 : decode cX11_isSheet 14 = .ok (.ireturn, 1) := by decide +kernel
theorem dX11_takeDoings_0 : decode cX11_takeDoings 0 = .ok (.iload_n 1, 1) := by decide +kernel
theorem dX11_takeDoings_1 : decode cX11_takeDoings 1 = .ok (.invokestatic 248, 3) := by decide +kernel
theorem dX11_takeDoings_4 : decode cX11_takeDoings 4 = .ok (.ifCond .eq 17, 3) := by decide +kernel
theorem dX11_takeDoings_7 : decode cX11_takeDoings 7 = .ok (.iload_n 2, 1) := by decide +kernel
theorem dX11_takeDoings_8 : decode cX11_takeDoings 8 = .ok (.invokestatic 251, 3) := by decide +kernel
theorem dX11_takeDoings_11 : decode cX11_takeDoings 11 = .ok (.ifCond .eq 10, 3) := by decide +kernel
theorem dX11_takeDoings_14 : decode cX11_takeDoings 14 = .ok (.iload 4, 2) := by decide +kernel
theorem dX11_takeDoings_16 : decode cX11_takeDoings 16 = .ok (.bipush 20, 2) := by decide +kernel
theorem dX11_takeDoings_18 : decode cX11_takeDoings 18 = .ok (.if_icmp .le 5, 3) := by decide +kernel
theorem dX11_takeDoings_21 : decode cX11_takeDoings 21 = .ok (.iconst (-1), 1) := by decide +kernel
theorem dX11_takeDoings_22 : decode cX11_takeDoings 22 = .ok (.ireturn, 1) := by decide +kernel
theorem dX11_takeDoings_23 : decode cX11_takeDoings 23 = .ok (.aload_n 0, 1) := by decide +kernel
theorem dX11_takeDoings_24 : decode cX11_takeDoings 24 = .ok (.getfield 45, 3) := by decide +kernel
theorem dX11_takeDoings_27 : decode cX11_takeDoings 27 = .ok (.iload_n 1, 1) := by decide +kernel
theorem dX11_takeDoings_28 : decode cX11_takeDoings 28 = .ok (.aaload, 1) := by decide +kernel
theorem dX11_takeDoings_29 : decode cX11_takeDoings 29 = .ok (.iload_n 2, 1) := by decide +kernel
theorem dX11_takeDoings_30 : decode cX11_takeDoings 30 = .ok (.iload_n 3, 1) := by decide +kernel
theorem dX11_takeDoings_31 : decode cX11_takeDoings 31 = .ok (.iload 4, 2) := by decide +kernel
theorem dX11_takeDoings_33 : decode cX11_takeDoings 33 = .ok (.invokevirtual 267, 3) := by decide +kernel
theorem dX11_takeDoings_36 : decode cX11_takeDoings 36 = .ok (.istore 5, 2) := by decide +kernel
theorem dX11_takeDoings_38 : decode cX11_takeDoings 38 = .ok (.iload 5, 2) := by decide +kernel
theorem dX11_takeDoings_40 : decode cX11_takeDoings 40 = .ok (.ifCond .eq 6, 3) := by decide +kernel
theorem dX11_takeDoings_43 : decode cX11_takeDoings 43 = .ok (.iload 5, 2) := by decide +kernel
theorem dX11_takeDoings_45 : decode cX11_takeDoings 45 = .ok (.ireturn, 1) := by decide +kernel
theorem dX11_takeDoings_46 : decode cX11_takeDoings 46 = .ok (.iconst 0, 1) := by decide +kernel
theorem dX11_takeDoings_47 : decode cX11_takeDoings 47 = .ok (.istore 6, 2) := by decide +kernel
theorem dX11_takeDoings_49 : decode cX11_takeDoings 49 = .ok (.iload 6, 2) := by decide +kernel
theorem dX11_takeDoings_51 : decode cX11_takeDoings 51 = .ok (.iload 4, 2) := by decide +kernel
theorem dX11_takeDoings_53 : decode cX11_takeDoings 53 = .ok (.if_icmp .ge 50, 3) := by decide +kernel
theorem dX11_takeDoings_56 : decode cX11_takeDoings 56 = .ok (.aload_n 0, 1) := by decide +kernel
theorem dX11_takeDoings_57 : decode cX11_takeDoings 57 = .ok (.getfield 45, 3) := by decide +kernel
theorem dX11_takeDoings_60 : decode cX11_takeDoings 60 = .ok (.iload_n 1, 1) := by decide +kernel
theorem dX11_takeDoings_61 : decode cX11_takeDoings 61 = .ok (.aaload, 1) := by decide +kernel
theorem dX11_takeDoings_62 : decode cX11_takeDoings 62 = .ok (.getfield 279, 3) := by decide +kernel
theorem dX11_takeDoings_65 : decode cX11_takeDoings 65 = .ok (.iload_n 3, 1) := by decide +kernel
theorem dX11_takeDoings_66 : decode cX11_takeDoings 66 = .ok (.iload 6, 2) := by decide +kernel
theorem dX11_takeDoings_68 : decode cX11_takeDoings 68 = .ok (.iadd, 1) := by decide +kernel
theorem dX11_takeDoings_69 : decode cX11_takeDoings 69 = .ok (.laload, 1) := by decide +kernel
theorem dX11_takeDoings_70 : decode cX11_takeDoings 70 = .ok (.lstore 7, 2) := by decide +kernel
theorem dX11_takeDoings_72 : decode cX11_takeDoings 72 = .ok (.aload_n 0, 1) := by decide +kernel
theorem dX11_takeDoings_73 : decode cX11_takeDoings 73 = .ok (.getfield 28, 3) := by decide +kernel
theorem dX11_takeDoings_76 : decode cX11_takeDoings 76 = .ok (.lload 7, 2) := by decide +kernel
theorem dX11_takeDoings_78 : decode cX11_takeDoings 78 = .ok (.invokevirtual 166, 3) := by decide +kernel
theorem dX11_takeDoings_81 : decode cX11_takeDoings 81 = .ok (.ifCond .ne 6, 3) := by decide +kernel
theorem dX11_takeDoings_84 : decode cX11_takeDoings 84 = .ok (.bipush (-2), 2) := by decide +kernel
theorem dX11_takeDoings_86 : decode cX11_takeDoings 86 = .ok (.ireturn, 1) := by decide +kernel
theorem dX11_takeDoings_87 : decode cX11_takeDoings 87 = .ok (.aload_n 0, 1) := by decide +kernel
theorem dX11_takeDoings_88 : decode cX11_takeDoings 88 = .ok (.getfield 78, 3) := by decide +kernel
theorem dX11_takeDoings_91 : decode cX11_takeDoings 91 = .ok (.iload 6, 2) := by decide +kernel
theorem dX11_takeDoings_93 : decode cX11_takeDoings 93 = .ok (.lload 7, 2) := by decide +kernel
theorem dX11_takeDoings_95 : decode cX11_takeDoings 95 = .ok (.l2i, 1) := by decide +kernel
theorem dX11_takeDoings_96 : decode cX11_takeDoings 96 = .ok (.iastore, 1) := by decide +kernel
theorem dX11_takeDoings_97 : decode cX11_takeDoings 97 = .ok (.iinc 6 1, 3) := by decide +kernel
theorem dX11_takeDoings_100 : decode cX11_takeDoings 100 = .ok (.goto (-51), 3) := by decide +kernel
theorem dX11_takeDoings_103 : decode cX11_takeDoings 103 = .ok (.iconst 0, 1) := by decide +kernel
theorem dX11_takeDoings_104 : decode cX11_takeDoings 104 = .ok (.ireturn, 1) := by decide +kernel
theorem dX11_areTriples_0 : decode cX11_areTriples 0 = .ok (.iconst 0, 1) := by decide +kernel
theorem dX11_areTriples_1 : decode cX11_areTriples 1 = .ok (.istore_n 3, 1) := by decide +kernel
theorem dX11_areTriples_2 : decode cX11_areTriples 2 = .ok (.iload_n 3, 1) := by decide +kernel
theorem dX11_areTriples_3 : decode cX11_areTriples 3 = .ok (.iload_n 2, 1) := by decide +kernel
theorem dX11_areTriples_4 : decode cX11_areTriples 4 = .ok (.if_icmp .ge 69, 3) := by decide +kernel
theorem dX11_areTriples_7 : decode cX11_areTriples 7 = .ok (.aload_n 0, 1) := by decide +kernel
theorem dX11_areTriples_8 : decode cX11_areTriples 8 = .ok (.getfield 279, 3) := by decide +kernel
theorem dX11_areTriples_11 : decode cX11_areTriples 11 = .ok (.iload_n 1, 1) := by decide +kernel
theorem dX11_areTriples_12 : decode cX11_areTriples 12 = .ok (.iload_n 3, 1) := by decide +kernel
theorem dX11_areTriples_13 : decode cX11_areTriples 13 = .ok (.iconst 3, 1) := by decide +kernel
theorem dX11_areTriples_14 : decode cX11_areTriples 14 = .ok (.imul, 1) := by decide +kernel
theorem dX11_areTriples_15 : decode cX11_areTriples 15 = .ok (.iadd, 1) := by decide +kernel
theorem dX11_areTriples_16 : decode cX11_areTriples 16 = .ok (.laload, 1) := by decide +kernel
theorem dX11_areTriples_17 : decode cX11_areTriples 17 = .ok (.lstore 4, 2) := by decide +kernel
theorem dX11_areTriples_19 : decode cX11_areTriples 19 = .ok (.aload_n 0, 1) := by decide +kernel
theorem dX11_areTriples_20 : decode cX11_areTriples 20 = .ok (.getfield 279, 3) := by decide +kernel
theorem dX11_areTriples_23 : decode cX11_areTriples 23 = .ok (.iload_n 1, 1) := by decide +kernel
theorem dX11_areTriples_24 : decode cX11_areTriples 24 = .ok (.iload_n 3, 1) := by decide +kernel
theorem dX11_areTriples_25 : decode cX11_areTriples 25 = .ok (.iconst 3, 1) := by decide +kernel
theorem dX11_areTriples_26 : decode cX11_areTriples 26 = .ok (.imul, 1) := by decide +kernel
theorem dX11_areTriples_27 : decode cX11_areTriples 27 = .ok (.iadd, 1) := by decide +kernel
theorem dX11_areTriples_28 : decode cX11_areTriples 28 = .ok (.iconst 1, 1) := by decide +kernel
theorem dX11_areTriples_29 : decode cX11_areTriples 29 = .ok (.iadd, 1) := by decide +kernel
theorem dX11_areTriples_30 : decode cX11_areTriples 30 = .ok (.laload, 1) := by decide +kernel
theorem dX11_areTriples_31 : decode cX11_areTriples 31 = .ok (.lstore 6, 2) := by decide +kernel
theorem dX11_areTriples_33 : decode cX11_areTriples 33 = .ok (.lload 4, 2) := by decide +kernel
theorem dX11_areTriples_35 : decode cX11_areTriples 35 = .ok (.lconst 0, 1) := by decide +kernel
theorem dX11_areTriples_36 : decode cX11_areTriples 36 = .ok (.lcmp, 1) := by decide +kernel
theorem dX11_areTriples_37 : decode cX11_areTriples 37 = .ok (.ifCond .lt 28, 3) := by decide +kernel
theorem dX11_areTriples_40 : decode cX11_areTriples 40 = .ok (.lload 4, 2) := by decide +kernel
theorem dX11_areTriples_42 : decode cX11_areTriples 42 = .ok (.ldc2_w 329, 3) := by decide +kernel
theorem dX11_areTriples_45 : decode cX11_areTriples 45 = .ok (.lcmp, 1) := by decide +kernel
theorem dX11_areTriples_46 : decode cX11_areTriples 46 = .ok (.ifCond .gt 19, 3) := by decide +kernel
theorem dX11_areTriples_49 : decode cX11_areTriples 49 = .ok (.lload 6, 2) := by decide +kernel
theorem dX11_areTriples_51 : decode cX11_areTriples 51 = .ok (.lconst 0, 1) := by decide +kernel
theorem dX11_areTriples_52 : decode cX11_areTriples 52 = .ok (.lcmp, 1) := by decide +kernel
theorem dX11_areTriples_53 : decode cX11_areTriples 53 = .ok (.ifCond .lt 12, 3) := by decide +kernel
theorem dX11_areTriples_56 : decode cX11_areTriples 56 = .ok (.lload 6, 2) := by decide +kernel
theorem dX11_areTriples_58 : decode cX11_areTriples 58 = .ok (.ldc2_w 331, 3) := by decide +kernel
theorem dX11_areTriples_61 : decode cX11_areTriples 61 = .ok (.lcmp, 1) := by decide +kernel
theorem dX11_areTriples_62 : decode cX11_areTriples 62 = .ok (.ifCond .le 5, 3) := by decide +kernel
theorem dX11_areTriples_65 : decode cX11_areTriples 65 = .ok (.iconst 0, 1) := by decide +kernel
theorem dX11_areTriples_66 : decode cX11_areTriples 66 = .ok (.ireturn, 1) := by decide +kernel
theorem dX11_areTriples_67 : decode cX11_areTriples 67 = .ok (.iinc 3 1, 3) := by decide +kernel
theorem dX11_areTriples_70 : decode cX11_areTriples 70 = .ok (.goto (-68), 3) := by decide +kernel
theorem dX11_areTriples_73 : decode cX11_areTriples 73 = .ok (.iconst 1, 1) := by decide +kernel
theorem dX11_areTriples_74 : decode cX11_areTriples 74 = .ok (.ireturn, 1) := by decide +kernel
theorem dX11_kindsByTriples_0 : decode cX11_kindsByTriples 0 = .ok (.bipush 62, 2) := by decide +kernel
theorem dX11_kindsByTriples_2 : decode cX11_kindsByTriples 2 = .ok (.istore_n 3, 1) := by decide +kernel
theorem dX11_kindsByTriples_3 : decode cX11_kindsByTriples 3 = .ok (.iconst 0, 1) := by decide +kernel
theorem dX11_kindsByTriples_4 : decode cX11_kindsByTriples 4 = .ok (.istore 4, 2) := by decide +kernel
theorem dX11_kindsByTriples_6 : decode cX11_kindsByTriples 6 = .ok (.iload 4, 2) := by decide +kernel
theorem dX11_kindsByTriples_8 : decode cX11_kindsByTriples 8 = .ok (.iload_n 2, 1) := by decide +kernel
theorem dX11_kindsByTriples_9 : decode cX11_kindsByTriples 9 = .ok (.if_icmp .ge 49, 3) := by decide +kernel
theorem dX11_kindsByTriples_12 : decode cX11_kindsByTriples 12 = .ok (.iload_n 1, 1) := by decide +kernel
theorem dX11_kindsByTriples_13 : decode cX11_kindsByTriples 13 = .ok (.iload 4, 2) := by decide +kernel
theorem dX11_kindsByTriples_15 : decode cX11_kindsByTriples 15 = .ok (.iconst 3, 1) := by decide +kernel
theorem dX11_kindsByTriples_16 : decode cX11_kindsByTriples 16 = .ok (.imul, 1) := by decide +kernel
theorem dX11_kindsByTriples_17 : decode cX11_kindsByTriples 17 = .ok (.iadd, 1) := by decide +kernel
theorem dX11_kindsByTriples_18 : decode cX11_kindsByTriples 18 = .ok (.istore 5, 2) := by decide +kernel
theorem dX11_kindsByTriples_20 : decode cX11_kindsByTriples 20 = .ok (.iload_n 3, 1) := by decide +kernel
theorem dX11_kindsByTriples_21 : decode cX11_kindsByTriples 21 = .ok (.aload_n 0, 1) := by decide +kernel
theorem dX11_kindsByTriples_22 : decode cX11_kindsByTriples 22 = .ok (.getfield 279, 3) := by decide +kernel
theorem dX11_kindsByTriples_25 : decode cX11_kindsByTriples 25 = .ok (.iload 5, 2) := by decide +kernel
theorem dX11_kindsByTriples_27 : decode cX11_kindsByTriples 27 = .ok (.laload, 1) := by decide +kernel
theorem dX11_kindsByTriples_28 : decode cX11_kindsByTriples 28 = .ok (.l2i, 1) := by decide +kernel
theorem dX11_kindsByTriples_29 : decode cX11_kindsByTriples 29 = .ok (.aload_n 0, 1) := by decide +kernel
theorem dX11_kindsByTriples_30 : decode cX11_kindsByTriples 30 = .ok (.getfield 279, 3) := by decide +kernel
theorem dX11_kindsByTriples_33 : decode cX11_kindsByTriples 33 = .ok (.iload 5, 2) := by decide +kernel
theorem dX11_kindsByTriples_35 : decode cX11_kindsByTriples 35 = .ok (.iconst 1, 1) := by decide +kernel
theorem dX11_kindsByTriples_36 : decode cX11_kindsByTriples 36 = .ok (.iadd, 1) := by decide +kernel
theorem dX11_kindsByTriples_37 : decode cX11_kindsByTriples 37 = .ok (.laload, 1) := by decide +kernel
theorem dX11_kindsByTriples_38 : decode cX11_kindsByTriples 38 = .ok (.l2i, 1) := by decide +kernel
theorem dX11_kindsByTriples_39 : decode cX11_kindsByTriples 39 = .ok (.aload_n 0, 1) := by decide +kernel
theorem dX11_kindsByTriples_40 : decode cX11_kindsByTriples 40 = .ok (.getfield 279, 3) := by decide +kernel
theorem dX11_kindsByTriples_43 : decode cX11_kindsByTriples 43 = .ok (.iload 5, 2) := by decide +kernel
theorem dX11_kindsByTriples_45 : decode cX11_kindsByTriples 45 = .ok (.iconst 2, 1) := by decide +kernel
theorem dX11_kindsByTriples_46 : decode cX11_kindsByTriples 46 = .ok (.iadd, 1) := by decide +kernel
theorem dX11_kindsByTriples_47 : decode cX11_kindsByTriples 47 = .ok (.laload, 1) := by decide +kernel
theorem dX11_kindsByTriples_48 : decode cX11_kindsByTriples 48 = .ok (.invokestatic 333, 3) := by decide +kernel
theorem dX11_kindsByTriples_51 : decode cX11_kindsByTriples 51 = .ok (.istore_n 3, 1) := by decide +kernel
theorem dX11_kindsByTriples_52 : decode cX11_kindsByTriples 52 = .ok (.iinc 4 1, 3) := by decide +kernel
theorem dX11_kindsByTriples_55 : decode cX11_kindsByTriples 55 = .ok (.goto (-49), 3) := by decide +kernel
theorem dX11_kindsByTriples_58 : decode cX11_kindsByTriples 58 = .ok (.iload_n 3, 1) := by decide +kernel
theorem dX11_kindsByTriples_59 : decode cX11_kindsByTriples 59 = .ok (.ireturn, 1) := by decide +kernel
theorem dX12_init_0 : decode cX12_init 0 = .ok (.aload_n 0, 1) := by decide +kernel
theorem dX12_init_1 : decode cX12_init 1 = .ok (.invokespecial 1, 3) := by decide +kernel
theorem dX12_init_4 : decode cX12_init 4 = .ok (.aload_n 0, 1) := by decide +kernel
theorem dX12_init_5 : decode cX12_init 5 = .ok (.bipush 26, 2) := by decide +kernel
theorem dX12_init_7 : decode cX12_init 7 = .ok (.newarray .int, 2) := by decide +kernel
theorem dX12_init_9 : decode cX12_init 9 = .ok (.putfield 7, 3) := by decide +kernel
theorem dX12_init_12 : decode cX12_init 12 = .ok (.aload_n 0, 1) := by decide +kernel
theorem dX12_init_13 : decode cX12_init 13 = .ok (.bipush 26, 2) := by decide +kernel
theorem dX12_init_15 : decode cX12_init 15 = .ok (.newarray .int, 2) := by decide +kernel
theorem dX12_init_17 : decode cX12_init 17 = .ok (.putfield 13, 3) := by decide +kernel
theorem dX12_init_20 : decode cX12_init 20 = .ok (.aload_n 0, 1) := by decide +kernel
theorem dX12_init_21 : decode cX12_init 21 = .ok (.bipush 8, 2) := by decide +kernel
theorem dX12_init_23 : decode cX12_init 23 = .ok (.newarray .int, 2) := by decide +kernel
theorem dX12_init_25 : decode cX12_init 25 = .ok (.putfield 16, 3) := by decide +kernel
theorem dX12_init_28 : decode cX12_init 28 = .ok (.aload_n 0, 1) := by decide +kernel
theorem dX12_init_29 : decode cX12_init 29 = .ok (.bipush 40, 2) := by decide +kernel
theorem dX12_init_31 : decode cX12_init 31 = .ok (.newarray .int, 2) := by decide +kernel
theorem dX12_init_33 : decode cX12_init 33 = .ok (.putfield 19, 3) := by decide +kernel
theorem dX12_init_36 : decode cX12_init 36 = .ok (.aload_n 0, 1) := by decide +kernel
theorem dX12_init_37 : decode cX12_init 37 = .ok (.bipush 40, 2) := by decide +kernel
theorem dX12_init_39 : decode cX12_init 39 = .ok (.newarray .int, 2) := by decide +kernel
theorem dX12_init_41 : decode cX12_init 41 = .ok (.putfield 22, 3) := by decide +kernel
theorem dX12_init_44 : decode cX12_init 44 = .ok (.aload_n 0, 1) := by decide +kernel
theorem dX12_init_45 : decode cX12_init 45 = .ok (.sipush 768, 3) := by decide +kernel
theorem dX12_init_48 : decode cX12_init 48 = .ok (.newarray .int, 2) := by decide +kernel
theorem dX12_init_50 : decode cX12_init 50 = .ok (.putfield 25, 3) := by decide +kernel
theorem dX12_init_53 : decode cX12_init 53 = .ok (.aload_n 0, 1) := by decide +kernel
theorem dX12_init_54 : decode cX12_init 54 = .ok (.sipush 134, 3) := by decide +kernel
theorem dX12_init_57 : decode cX12_init 57 = .ok (.newarray .int, 2) := by decide +kernel
theorem dX12_init_59 : decode cX12_init 59 = .ok (.putfield 28, 3) := by decide +kernel
theorem dX12_init_62 : decode cX12_init 62 = .ok (.aload_n 0, 1) := by decide +kernel
theorem dX12_init_63 : decode cX12_init 63 = .ok (.iconst 2, 1) := by decide +kernel
theorem dX12_init_64 : decode cX12_init 64 = .ok (.newarray .boolean, 2) := by decide +kernel
theorem dX12_init_66 : decode cX12_init 66 = .ok (.putfield 31, 3) := by decide +kernel
theorem dX12_init_69 : decode cX12_init 69 = .ok (.aload_n 0, 1) := by decide +kernel
theorem dX12_init_70 : decode cX12_init 70 = .ok (.bipush 80, 2) := by decide +kernel
theorem dX12_init_72 : decode cX12_init 72 = .ok (.newarray .int, 2) := by decide +kernel
theorem dX12_init_74 : decode cX12_init 74 = .ok (.putfield 35, 3) := by decide +kernel
theorem dX12_init_77 : decode cX12_init 77 = .ok (.aload_n 0, 1) := by decide +kernel
theorem dX12_init_78 : decode cX12_init 78 = .ok (.iconst 4, 1) := by decide +kernel
theorem dX12_init_79 : decode cX12_init 79 = .ok (.newarray .int, 2) := by decide +kernel
theorem dX12_init_81 : decode cX12_init 81 = .ok (.putfield 38, 3) := by decide +kernel
theorem dX12_init_84 : decode cX12_init 84 = .ok (.aload_n 0, 1) := by decide +kernel
theorem dX12_init_85 : decode cX12_init 85 = .ok (.iconst 4, 1) := by decide +kernel
theorem dX12_init_86 : decode cX12_init 86 = .ok (.newarray .int, 2) := by decide +kernel
theorem dX12_init_88 : decode cX12_init 88 = .ok (.putfield 41, 3) := by decide +kernel
theorem dX12_init_91 : decode cX12_init 91 = .ok (.aload_n 0, 1) := by decide +kernel
theorem dX12_init_92 : decode cX12_init 92 = .ok (.bipush 96, 2) := by decide +kernel
theorem dX12_init_94 : decode cX12_init 94 = .ok (.newarray .long, 2) := by decide +kernel
theorem dX12_init_96 : decode cX12_init 96 = .ok (.putfield 44, 3) := by decide +kernel
theorem dX12_init_99 : decode cX12_init 99 = .ok (.aload_n 0, 1) := by decide +kernel
theorem dX12_init_100 : decode cX12_init 100 = .ok (.sipush 1000, 3) := by decide +kernel
theorem dX12_init_103 : decode cX12_init 103 = .ok (.newarray .boolean, 2) := by decide +kernel
theorem dX12_init_105 : decode cX12_init 105 = .ok (.putfield 48, 3) := by decide +kernel
theorem dX12_init_108 : decode cX12_init 108 = .ok (.aload_n 0, 1) := by decide +kernel
theorem dX12_init_109 : decode cX12_init 109 = .ok (.bipush 10, 2) := by decide +kernel
theorem dX12_init_111 : decode cX12_init 111 = .ok (.newarray .long, 2) := by decide +kernel
theorem dX12_init_113 : decode cX12_init 113 = .ok (.putfield 51, 3) := by decide +kernel
theorem dX12_init_116 : decode cX12_init 116 = .ok (.aload_n 0, 1) := by decide +kernel
theorem dX12_init_117 : decode cX12_init 117 = .ok (.sipush 4000, 3) := by decide +kernel
theorem dX12_init_120 : decode cX12_init 120 = .ok (.newarray .int, 2) := by decide +kernel
theorem dX12_init_122 : decode cX12_init 122 = .ok (.putfield 54, 3) := by decide +kernel
theorem dX12_init_125 : decode cX12_init 125 = .ok (.iconst 0, 1) := by decide +kernel
theorem dX12_init_126 : decode cX12_init 126 = .ok (.istore_n 1, 1) := by decide +kernel
theorem dX12_init_127 : decode cX12_init 127 = .ok (.iload_n 1, 1) := by decide +kernel
theorem dX12_init_128 : decode cX12_init 128 = .ok (.iconst 4, 1) := by decide +kernel
theorem dX12_init_129 : decode cX12_init 129 = .ok (.if_icmp .ge 16, 3) := by decide +kernel
theorem dX12_init_132 : decode cX12_init 132 = .ok (.aload_n 0, 1) := by decide +kernel
theorem dX12_init_133 : decode cX12_init 133 = .ok (.getfield 38, 3) := by decide +kernel
theorem dX12_init_136 : decode cX12_init 136 = .ok (.iload_n 1, 1) := by decide +kernel
theorem dX12_init_137 : decode cX12_init 137 = .ok (.iconst (-1), 1) := by decide +kernel
theorem dX12_init_138 : decode cX12_init 138 = .ok (.iastore, 1) := by decide +kernel
theorem dX12_init_139 : decode cX12_init 139 = .ok (.iinc 1 1, 3) := by decide +kernel
theorem dX12_init_142 : decode cX12_init 142 = .ok (.goto (-15), 3) := by decide +kernel
theorem dX12_init_145 : decode cX12_init 145 = .ok (.return_, 1) := by decide +kernel
theorem dX12_in_0 : decode cX12_in 0 = .ok (.lload_n 0, 1) := by decide +kernel
theorem dX12_in_1 : decode cX12_in 1 = .ok (.lload_n 2, 1) := by decide +kernel
theorem dX12_in_2 : decode cX12_in 2 = .ok (.lcmp, 1) := by decide +kernel
theorem dX12_in_3 : decode cX12_in 3 = .ok (.ifCond .lt 14, 3) := by decide +kernel
theorem dX12_in_6 : decode cX12_in 6 = .ok (.lload_n 0, 1) := by decide +kernel
theorem dX12_in_7 : decode cX12_in 7 = .ok (.lload 4, 2) := by decide +kernel
theorem dX12_in_9 : decode cX12_in 9 = .ok (.lcmp, 1) := by decide +kernel
theorem dX12_in_10 : decode cX12_in 10 = .ok (.ifCond .gt 7, 3) := by decide +kernel
theorem dX12_in_13 : decode cX12_in 13 = .ok (.iconst 1, 1) := by decide +kernel
theorem dX12_in_14 : decode cX12_in 14 = .ok (.goto 4, 3) := by decide +kernel
theorem dX12_in_17 : decode cX12_in 17 = .ok (.iconst 0, 1) := by decide +kernel
theorem dX12_in_18 : decode cX12_in 18 = .ok (.ireturn, 1) := by decide +kernel
theorem dX12_has_0 : decode cX12_has 0 = .ok (.iload_n 0, 1) := by decide +kernel
theorem dX12_has_1 : decode cX12_has 1 = .ok (.iload_n 1, 1) := by decide +kernel
theorem dX12_has_2 : decode cX12_has 2 = .ok (.ishr, 1) := by decide +kernel
theorem dX12_has_3 : decode cX12_has 3 = .ok (.iconst 1, 1) := by decide +kernel
theorem dX12_has_4 : decode cX12_has 4 = .ok (.iand, 1) := by decide +kernel
theorem dX12_has_5 : decode cX12_has 5 = .ok (.iconst 1, 1) := by decide +kernel
theorem dX12_has_6 : decode cX12_has 6 = .ok (.if_icmp .ne 7, 3) := by decide +kernel
theorem dX12_has_9 : decode cX12_has 9 = .ok (.iconst 1, 1) := by decide +kernel
theorem dX12_has_10 : decode cX12_has 10 = .ok (.goto 4, 3) := by decide +kernel
theorem dX12_has_13 : decode cX12_has 13 = .ok (.iconst 0, 1) := by decide +kernel
theorem dX12_has_14 : decode cX12_has 14 = .ok (.ireturn, 1) := by decide +kernel
theorem dX12_bits_0 : decode cX12_bits 0 = .ok (.iconst 0, 1) := by decide +kernel
theorem dX12_bits_1 : decode cX12_bits 1 = .ok (.istore_n 1, 1) := by decide +kernel
theorem dX12_bits_2 : decode cX12_bits 2 = .ok (.iload_n 0, 1) := by decide +kernel
theorem dX12_bits_3 : decode cX12_bits 3 = .ok (.istore_n 2, 1) := by decide +kernel
theorem dX12_bits_4 : decode cX12_bits 4 = .ok (.iload_n 2, 1) := by decide +kernel
theorem dX12_bits_5 : decode cX12_bits 5 = .ok (.ifCond .eq 15, 3) := by decide +kernel
theorem dX12_bits_8 : decode cX12_bits 8 = .ok (.iinc 1 1, 3) := by decide +kernel
theorem dX12_bits_11 : decode cX12_bits 11 = .ok (.iload_n 2, 1) := by decide +kernel
theorem dX12_bits_12 : decode cX12_bits 12 = .ok (.iload_n 2, 1) := by decide +kernel
theorem dX12_bits_13 : decode cX12_bits 13 = .ok (.iconst 1, 1) := by decide +kernel
theorem dX12_bits_14 : decode cX12_bits 14 = .ok (.isub, 1) := by decide +kernel
theorem dX12_bits_15 : decode cX12_bits 15 = .ok (.iand, 1) := by decide +kernel
theorem dX12_bits_16 : decode cX12_bits 16 = .ok (.istore_n 2, 1) := by decide +kernel
theorem dX12_bits_17 : decode cX12_bits 17 = .ok (.goto (-13), 3) := by decide +kernel
theorem dX12_bits_20 : decode cX12_bits 20 = .ok (.iload_n 1, 1) := by decide +kernel
theorem dX12_bits_21 : decode cX12_bits 21 = .ok (.ireturn, 1) := by decide +kernel
theorem dX12_copies_0 : decode cX12_copies 0 = .ok (.iconst 0, 1) := by decide +kernel
theorem dX12_copies_1 : decode cX12_copies 1 = .ok (.istore 5, 2) := by decide +kernel
theorem dX12_copies_3 : decode cX12_copies 3 = .ok (.iload 5, 2) := by decide +kernel
theorem dX12_copies_5 : decode cX12_copies 5 = .ok (.iload 4, 2) := by decide +kernel
theorem dX12_copies_7 : decode cX12_copies 7 = .ok (.if_icmp .ge 21, 3) := by decide +kernel
theorem dX12_copies_10 : decode cX12_copies 10 = .ok (.aload_n 2, 1) := by decide +kernel
theorem dX12_copies_11 : decode cX12_copies 11 = .ok (.iload_n 3, 1) := by decide +kernel
theorem dX12_copies_12 : decode cX12_copies 12 = .ok (.iload 5, 2) := by decide +kernel
theorem dX12_copies_14 : decode cX12_copies 14 = .ok (.iadd, 1) := by decide +kernel
theorem dX12_copies_15 : decode cX12_copies 15 = .ok (.aload_n 0, 1) := by decide +kernel
theorem dX12_copies_16 : decode cX12_copies 16 = .ok (.iload_n 1, 1) := by decide +kernel
theorem dX12_copies_17 : decode cX12_copies 17 = .ok (.iload 5, 2) := by decide +kernel
theorem dX12_copies_19 : decode cX12_copies 19 = .ok (.iadd, 1) := by decide +kernel
theorem dX12_copies_20 : decode cX12_copies 20 = .ok (.iaload, 1) := by decide +kernel
theorem dX12_copies_21 : decode cX12_copies 21 = .ok (.iastore, 1) := by decide +kernel
theorem dX12_copies_22 : decode cX12_copies 22 = .ok (.iinc 5 1, 3) := by decide +kernel
theorem dX12_copies_25 : decode cX12_copies 25 = .ok (.goto (-22), 3) := by decide +kernel
theorem dX12_copies_28 : decode cX12_copies 28 = .ok (.return_, 1) := by decide +kernel
theorem dX12_less_0 : decode cX12_less 0 = .ok (.iload_n 0, 1) := by decide +kernel
theorem dX12_less_1 : decode cX12_less 1 = .ok (.iload_n 1, 1) := by decide +kernel
theorem dX12_less_2 : decode cX12_less 2 = .ok (.if_icmp .ge 7, 3) := by decide +kernel
theorem dX12_less_5 : decode cX12_less 5 = .ok (.iload_n 0, 1) := by decide +kernel
theorem dX12_less_6 : decode cX12_less 6 = .ok (.goto 4, 3) := by decide +kernel
theorem dX12_less_9 : decode cX12_less 9 = .ok (.iload_n 1, 1) := by decide +kernel
theorem dX12_less_10 : decode cX12_less 10 = .ok (.ireturn, 1) := by decide +kernel
theorem dX12_feed_0 : decode cX12_feed 0 = .ok (.iload_n 1, 1) := by decide +kernel
theorem dX12_feed_1 : decode cX12_feed 1 = .ok (.i2l, 1) := by decide +kernel
theorem dX12_feed_2 : decode cX12_feed 2 = .ok (.lconst 0, 1) := by decide +kernel
theorem dX12_feed_3 : decode cX12_feed 3 = .ok (.ldc2_w 57, 3) := by decide +kernel
theorem dX12_feed_6 : decode cX12_feed 6 = .ok (.invokestatic 59, 3) := by decide +kernel
theorem dX12_feed_9 : decode cX12_feed 9 = .ok (.ifCond .ne 5, 3) := by decide +kernel
theorem dX12_feed_12 : decode cX12_feed 12 = .ok (.iconst (-1), 1) := by decide +kernel
theorem dX12_feed_13 : decode cX12_feed 13 = .ok (.ireturn, 1) := by decide +kernel
theorem dX12_feed_14 : decode cX12_feed 14 = .ok (.aload_n 0, 1) := by decide +kernel
theorem dX12_feed_15 : decode cX12_feed 15 = .ok (.getfield 63, 3) := by decide +kernel
theorem dX12_feed_18 : decode cX12_feed 18 = .ok (.bipush 80, 2) := by decide +kernel
theorem dX12_feed_20 : decode cX12_feed 20 = .ok (.if_icmp .ne 6, 3) := by decide +kernel
theorem dX12_feed_23 : decode cX12_feed 23 = .ok (.bipush (-3), 2) := by decide +kernel
theorem dX12_feed_25 : decode cX12_feed 25 = .ok (.ireturn, 1) := by decide +kernel
theorem dX12_feed_26 : decode cX12_feed 26 = .ok (.aload_n 0, 1) := by decide +kernel
theorem dX12_feed_27 : decode cX12_feed 27 = .ok (.getfield 35, 3) := by decide +kernel
theorem dX12_feed_30 : decode cX12_feed 30 = .ok (.aload_n 0, 1) := by decide +kernel
theorem dX12_feed_31 : decode cX12_feed 31 = .ok (.getfield 63, 3) := by decide +kernel
theorem dX12_feed_34 : decode cX12_feed 34 = .ok (.iload_n 1, 1) := by decide +kernel
theorem dX12_feed_35 : decode cX12_feed 35 = .ok (.iastore, 1) := by decide +kernel
theorem dX12_feed_36 : decode cX12_feed 36 = .ok (.aload_n 0, 1) := by decide +kernel
theorem dX12_feed_37 : decode cX12_feed 37 = .ok (.dup, 1) := by decide +kernel
theorem dX12_feed_38 : decode cX12_feed 38 = .ok (.getfield 63, 3) := by decide +kernel
theorem dX12_feed_41 : decode cX12_feed 41 = .ok (.iconst 1, 1) := by decide +kernel
theorem dX12_feed_42 : decode cX12_feed 42 = .ok (.iadd, 1) := by decide +kernel
theorem dX12_feed_43 : decode cX12_feed 43 = .ok (.putfield 63, 3) := by decide +kernel
theorem dX12_feed_46 : decode cX12_feed 46 = .ok (.aload_n 0, 1) := by decide +kernel
theorem dX12_feed_47 : decode cX12_feed 47 = .ok (.getfield 63, 3) := by decide +kernel
theorem dX12_feed_50 : decode cX12_feed 50 = .ok (.ireturn, 1) := by decide +kernel
theorem dX12_here_0 : decode cX12_here 0 = .ok (.aload_n 0, 1) := by decide +kernel
theorem dX12_here_1 : decode cX12_here 1 = .ok (.getfield 67, 3) := by decide +kernel
theorem dX12_here_4 : decode cX12_here 4 = .ok (.aload_n 0, 1) := by decide +kernel
theorem dX12_here_5 : decode cX12_here 5 = .ok (.getfield 63, 3) := by decide +kernel
theorem dX12_here_8 : decode cX12_here 8 = .ok (.if_icmp .ge 15, 3) := by decide +kernel
theorem dX12_here_11 : decode cX12_here 11 = .ok (.aload_n 0, 1) := by decide +kernel
theorem dX12_here_12 : decode cX12_here 12 = .ok (.getfield 35, 3) := by decide +kernel
theorem dX12_here_15 : decode cX12_here 15 = .ok (.aload_n 0, 1) := by decide +kernel
theorem dX12_here_16 : decode cX12_here 16 = .ok (.getfield 67, 3) := by decide +kernel
theorem dX12_here_19 : decode cX12_here 19 = .ok (.iaload, 1) := by decide +kernel
theorem dX12_here_20 : decode cX12_here 20 = .ok (.goto 4, 3) := by decide +kernel
theorem dX12_here_23 : decode cX12_here 23 = .ok (.iconst (-1), 1) := by decide +kernel
theorem dX12_here_24 : decode cX12_here 24 = .ok (.ireturn, 1) := by decide +kernel
theorem dX12_eats_0 : decode cX12_eats 0 = .ok (.aload_n 0, 1) := by decide +kernel
theorem dX12_eats_1 : decode cX12_eats 1 = .ok (.invokevirtual 70, 3) := by decide +kernel
theorem dX12_eats_4 : decode cX12_eats 4 = .ok (.iload_n 1, 1) := by decide +kernel
theorem dX12_eats_5 : decode cX12_eats 5 = .ok (.if_icmp .ne 7, 3) := by decide +kernel
theorem dX12_eats_8 : decode cX12_eats 8 = .ok (.iconst 1, 1) := by decide +kernel
theorem dX12_eats_9 : decode cX12_eats 9 = .ok (.goto 4, 3) := by decide +kernel
theorem dX12_eats_12 : decode cX12_eats 12 = .ok (.iconst 0, 1) := by decide +kernel
theorem dX12_eats_13 : decode cX12_eats 13 = .ok (.istore_n 2, 1) := by decide +kernel
theorem dX12_eats_14 : decode cX12_eats 14 = .ok (.aload_n 0, 1) := by decide +kernel
theorem dX12_eats_15 : decode cX12_eats 15 = .ok (.dup, 1) := by decide +kernel
theorem dX12_eats_16 : decode cX12_eats 16 = .ok (.getfield 67, 3) := by decide +kernel
theorem dX12_eats_19 : decode cX12_eats 19 = .ok (.iload_n 2, 1) := by decide +kernel
theorem dX12_eats_20 : decode cX12_eats 20 = .ok (.ifCond .eq 7, 3) := by decide +kernel
theorem dX12_eats_23 : decode cX12_eats 23 = .ok (.iconst 1, 1) := by decide +kernel
theorem dX12_eats_24 : decode cX12_eats 24 = .ok (.goto 4, 3) := by decide +kernel
theorem dX12_eats_27 : decode cX12_eats 27 = .ok (.iconst 0, 1) := by decide +kernel
theorem dX12_eats_28 : decode cX12_eats 28 = .ok (.iadd, 1) := by decide +kernel
theorem dX12_eats_29 : decode cX12_eats 29 = .ok (.putfield 67, 3) := by decide +kernel
theorem dX12_eats_32 : decode cX12_eats 32 = .ok (.iload_n 2, 1) := by decide +kernel
theorem dX12_eats_33 : decode cX12_eats 33 = .ok (.ireturn, 1) := by decide +kernel
theorem dX12_figure_0 : decode cX12_figure 0 = .ok (.aload_n 0, 1) := by decide +kernel
theorem dX12_figure_1 : decode cX12_figure 1 = .ok (.invokevirtual 70, 3) := by decide +kernel
theorem dX12_figure_4 : decode cX12_figure 4 = .ok (.bipush 48, 2) := by decide +kernel
theorem dX12_figure_6 : decode cX12_figure 6 = .ok (.isub, 1) := by decide +kernel
theorem dX12_figure_7 : decode cX12_figure 7 = .ok (.i2l, 1) := by decide +kernel
theorem dX12_figure_8 : decode cX12_figure 8 = .ok (.iload_n 1, 1) := by decide +kernel
theorem dX12_figure_9 : decode cX12_figure 9 = .ok (.i2l, 1) := by decide +kernel
theorem dX12_figure_10 : decode cX12_figure 10 = .ok (.iload_n 2, 1) := by decide +kernel
theorem dX12_figure_11 : decode cX12_figure 11 = .ok (.i2l, 1) := by decide +kernel
theorem dX12_figure_12 : decode cX12_figure 12 = .ok (.invokestatic 59, 3) := by decide +kernel
theorem dX12_figure_15 : decode cX12_figure 15 = .ok (.ifCond .ne 5, 3) := by decide +kernel
theorem dX12_figure_18 : decode cX12_figure 18 = .ok (.iconst 0, 1) := by decide +kernel
theorem dX12_figure_19 : decode cX12_figure 19 = .ok (.ireturn, 1) := by decide +kernel
theorem dX12_figure_20 : decode cX12_figure 20 = .ok (.aload_n 0, 1) := by decide +kernel
theorem dX12_figure_21 : decode cX12_figure 21 = .ok (.aload_n 0, 1) := by decide +kernel
theorem dX12_figure_22 : decode cX12_figure 22 = .ok (.invokevirtual 70, 3) := by decide +kernel
theorem dX12_figure_25 : decode cX12_figure 25 = .ok (.bipush 48, 2) := by decide +kernel
theorem dX12_figure_27 : decode cX12_figure 27 = .ok (.isub, 1) := by decide +kernel
theorem dX12_figure_28 : decode cX12_figure 28 = .ok (.putfield 74, 3) := by decide +kernel
theorem dX12_figure_31 : decode cX12_figure 31 = .ok (.aload_n 0, 1) := by decide +kernel
theorem dX12_figure_32 : decode cX12_figure 32 = .ok (.dup, 1) := by decide +kernel
theorem dX12_figure_33 : decode cX12_figure 33 = .ok (.getfield 67, 3) := by decide +kernel
theorem dX12_figure_36 : decode cX12_figure 36 = .ok (.iconst 1, 1) := by decide +kernel
theorem dX12_figure_37 : decode cX12_figure 37 = .ok (.iadd, 1) := by decide +kernel
theorem dX12_figure_38 : decode cX12_figure 38 = .ok (.putfield 67, 3) := by decide +kernel
theorem dX12_figure_41 : decode cX12_figure 41 = .ok (.iconst 1, 1) := by decide +kernel
theorem dX12_figure_42 : decode cX12_figure 42 = .ok (.ireturn, 1) := by decide +kernel
theorem dX12_kindBy_0 : decode cX12_kindBy 0 = .ok (.iload_n 0, 1) := by decide +kernel
theorem dX12_kindBy_1 : decode cX12_kindBy 1 = .ok (.lookupswitch 61 #[(99, 51), (102, 59), (108, 53), (115, 55), (119, 57)], 51) := by decide +kernel
theorem dX12_kindBy_52 : decode cX12_kindBy 52 = .ok (.iconst 1, 1) := by decide +kernel
theorem dX12_kindBy_53 : decode cX12_kindBy 53 = .ok (.ireturn, 1) := by decide +kernel
theorem dX12_kindBy_54 : decode cX12_kindBy 54 = .ok (.iconst 2, 1) := by decide +kernel
theorem dX12_kindBy_55 : decode cX12_kindBy 55 = .ok (.ireturn, 1) := by decide +kernel
theorem dX12_kindBy_56 : decode cX12_kindBy 56 = .ok (.iconst 3, 1) := by decide +kernel
theorem dX12_kindBy_57 : decode cX12_kindBy 57 = .ok (.ireturn, 1) := by decide +kernel
theorem dX12_kindBy_58 : decode cX12_kindBy 58 = .ok (.iconst 4, 1) := by decide +kernel
theorem dX12_kindBy_59 : decode cX12_kindBy 59 = .ok (.ireturn, 1) := by decide +kernel
theorem dX12_kindBy_60 : decode cX12_kindBy 60 = .ok (.iconst 5, 1) := by decide +kernel
theorem dX12_kindBy_61 : decode cX12_kindBy 61 = .ok (.ireturn, 1) := by decide +kernel
theorem dX12_kindBy_62 : decode cX12_kindBy 62 = .ok (.iconst 0, 1) := by decide +kernel
theorem dX12_kindBy_63 : decode cX12_kindBy 63 = .ok (.ireturn, 1) := by decide +kernel
theorem dX12_readsSquare_0 : decode cX12_readsSquare 0 = .ok (.aload_n 0, 1) := by decide +kernel
theorem dX12_readsSquare_1 : decode cX12_readsSquare 1 = .ok (.getfield 13, 3) := by decide +kernel
theorem dX12_readsSquare_4 : decode cX12_readsSquare 4 = .ok (.iconst 0, 1) := by decide +kernel
theorem dX12_readsSquare_5 : decode cX12_readsSquare 5 = .ok (.iaload, 1) := by decide +kernel
theorem dX12_readsSquare_6 : decode cX12_readsSquare 6 = .ok (.istore_n 1, 1) := by decide +kernel
theorem dX12_readsSquare_7 : decode cX12_readsSquare 7 = .ok (.aload_n 0, 1) := by decide +kernel
theorem dX12_readsSquare_8 : decode cX12_readsSquare 8 = .ok (.invokevirtual 70, 3) := by decide +kernel
theorem dX12_readsSquare_11 : decode cX12_readsSquare 11 = .ok (.invokestatic 77, 3) := by decide +kernel
theorem dX12_readsSquare_14 : decode cX12_readsSquare 14 = .ok (.istore_n 2, 1) := by decide +kernel
theorem dX12_readsSquare_15 : decode cX12_readsSquare 15 = .ok (.iload_n 2, 1) := by decide +kernel
theorem dX12_readsSquare_16 : decode cX12_readsSquare 16 = .ok (.ifCond .ne 5, 3) := by decide +kernel
theorem dX12_readsSquare_19 : decode cX12_readsSquare 19 = .ok (.iconst 0, 1) := by decide +kernel
theorem dX12_readsSquare_20 : decode cX12_readsSquare 20 = .ok (.ireturn, 1) := by decide +kernel
theorem dX12_readsSquare_21 : decode cX12_readsSquare 21 = .ok (.aload_n 0, 1) := by decide +kernel
theorem dX12_readsSquare_22 : decode cX12_readsSquare 22 = .ok (.dup, 1) := by decide +kernel
theorem dX12_readsSquare_23 : decode cX12_readsSquare 23 = .ok (.getfield 67, 3) := by decide +kernel
theorem dX12_readsSquare_26 : decode cX12_readsSquare 26 = .ok (.iconst 1, 1) := by decide +kernel
theorem dX12_readsSquare_27 : decode cX12_readsSquare 27 = .ok (.iadd, 1) := by decide +kernel
theorem dX12_readsSquare_28 : decode cX12_readsSquare 28 = .ok (.putfield 67, 3) := by decide +kernel
theorem dX12_readsSquare_31 : decode cX12_readsSquare 31 = .ok (.aload_n 0, 1) := by decide +kernel
theorem dX12_readsSquare_32 : decode cX12_readsSquare 32 = .ok (.getfield 13, 3) := by decide +kernel
theorem dX12_readsSquare_35 : decode cX12_readsSquare 35 = .ok (.iconst 3, 1) := by decide +kernel
theorem dX12_readsSquare_36 : decode cX12_readsSquare 36 = .ok (.iload_n 1, 1) := by decide +kernel
theorem dX12_readsSquare_37 : decode cX12_readsSquare 37 = .ok (.iadd, 1) := by decide +kernel
theorem dX12_readsSquare_38 : decode cX12_readsSquare 38 = .ok (.iload_n 2, 1) := by decide +kernel
theorem dX12_readsSquare_39 : decode cX12_readsSquare 39 = .ok (.iastore, 1) := by decide +kernel
theorem dX12_readsSquare_40 : decode cX12_readsSquare 40 = .ok (.aload_n 0, 1) := by decide +kernel
theorem dX12_readsSquare_41 : decode cX12_readsSquare 41 = .ok (.iconst 0, 1) := by decide +kernel
theorem dX12_readsSquare_42 : decode cX12_readsSquare 42 = .ok (.bipush 7, 2) := by decide +kernel
theorem dX12_readsSquare_44 : decode cX12_readsSquare 44 = .ok (.invokevirtual 81, 3) := by decide +kernel
theorem dX12_readsSquare_47 : decode cX12_readsSquare 47 = .ok (.ifCond .ne 5, 3) := by decide +kernel
theorem dX12_readsSquare_50 : decode cX12_readsSquare 50 = .ok (.iconst 0, 1) := by decide +kernel
theorem dX12_readsSquare_51 : decode cX12_readsSquare 51 = .ok (.ireturn, 1) := by decide +kernel
theorem dX12_readsSquare_52 : decode cX12_readsSquare 52 = .ok (.aload_n 0, 1) := by decide +kernel
theorem dX12_readsSquare_53 : decode cX12_readsSquare 53 = .ok (.getfield 16, 3) := by decide +kernel
theorem dX12_readsSquare_56 : decode cX12_readsSquare 56 = .ok (.iload_n 1, 1) := by decide +kernel
theorem dX12_readsSquare_57 : decode cX12_readsSquare 57 = .ok (.aload_n 0, 1) := by decide +kernel
theorem dX12_readsSquare_58 : decode cX12_readsSquare 58 = .ok (.getfield 74, 3) := by decide +kernel
theorem dX12_readsSquare_61 : decode cX12_readsSquare 61 = .ok (.iastore, 1) := by decide +kernel
theorem dX12_readsSquare_62 : decode cX12_readsSquare 62 = .ok (.aload_n 0, 1) := by decide +kernel
theorem dX12_readsSquare_63 : decode cX12_readsSquare 63 = .ok (.getfield 13, 3) := by decide +kernel
theorem dX12_readsSquare_66 : decode cX12_readsSquare 66 = .ok (.iconst 0, 1) := by decide +kernel
theorem dX12_readsSquare_67 : decode cX12_readsSquare 67 = .ok (.dup2, 1) := by decide +kernel
theorem dX12_readsSquare_68 : decode cX12_readsSquare 68 = .ok (.iaload, 1) := by decide +kernel
theorem dX12_readsSquare_69 : decode cX12_readsSquare 69 = .ok (.iconst 1, 1) := by decide +kernel
theorem dX12_readsSquare_70 : decode cX12_readsSquare 70 = .ok (.iadd, 1) := by decide +kernel
theorem dX12_readsSquare_71 : decode cX12_readsSquare 71 = .ok (.iastore, 1) := by decide +kernel
theorem dX12_readsSquare_72 : decode cX12_readsSquare 72 = .ok (.iconst 1, 1) := by decide +kernel
theorem dX12_readsSquare_73 : decode cX12_readsSquare 73 = .ok (.ireturn, 1) := by decide +kernel
theorem dX12_readsDye_0 : decode cX12_readsDye 0 = .ok (.iconst 0, 1) := by decide +kernel
theorem dX12_readsDye_1 : decode cX12_readsDye 1 = .ok (.istore_n 1, 1) := by decide +kernel
theorem dX12_readsDye_2 : decode cX12_readsDye 2 = .ok (.iload_n 1, 1) := by decide +kernel
theorem dX12_readsDye_3 : decode cX12_readsDye 3 = .ok (.iconst 3, 1) := by decide +kernel
theorem dX12_readsDye_4 : decode cX12_readsDye 4 = .ok (.if_icmp .ge 42, 3) := by decide +kernel
theorem dX12_readsDye_7 : decode cX12_readsDye 7 = .ok (.aload_n 0, 1) := by decide +kernel
theorem dX12_readsDye_8 : decode cX12_readsDye 8 = .ok (.iconst 0, 1) := by decide +kernel
theorem dX12_readsDye_9 : decode cX12_readsDye 9 = .ok (.iconst 3, 1) := by decide +kernel
theorem dX12_readsDye_10 : decode cX12_readsDye 10 = .ok (.invokevirtual 81, 3) := by decide +kernel
theorem dX12_readsDye_13 : decode cX12_readsDye 13 = .ok (.ifCond .ne 5, 3) := by decide +kernel
theorem dX12_readsDye_16 : decode cX12_readsDye 16 = .ok (.iconst 0, 1) := by decide +kernel
theorem dX12_readsDye_17 : decode cX12_readsDye 17 = .ok (.ireturn, 1) := by decide +kernel
theorem dX12_readsDye_18 : decode cX12_readsDye 18 = .ok (.aload_n 0, 1) := by decide +kernel
theorem dX12_readsDye_19 : decode cX12_readsDye 19 = .ok (.getfield 13, 3) := by decide +kernel
theorem dX12_readsDye_22 : decode cX12_readsDye 22 = .ok (.bipush 11, 2) := by decide +kernel
theorem dX12_readsDye_24 : decode cX12_readsDye 24 = .ok (.iconst 3, 1) := by decide +kernel
theorem dX12_readsDye_25 : decode cX12_readsDye 25 = .ok (.aload_n 0, 1) := by decide +kernel
theorem dX12_readsDye_26 : decode cX12_readsDye 26 = .ok (.getfield 13, 3) := by decide +kernel
theorem dX12_readsDye_29 : decode cX12_readsDye 29 = .ok (.iconst 1, 1) := by decide +kernel
theorem dX12_readsDye_30 : decode cX12_readsDye 30 = .ok (.iaload, 1) := by decide +kernel
theorem dX12_readsDye_31 : decode cX12_readsDye 31 = .ok (.imul, 1) := by decide +kernel
theorem dX12_readsDye_32 : decode cX12_readsDye 32 = .ok (.iadd, 1) := by decide +kernel
theorem dX12_readsDye_33 : decode cX12_readsDye 33 = .ok (.iload_n 1, 1) := by decide +kernel
theorem dX12_readsDye_34 : decode cX12_readsDye 34 = .ok (.iadd, 1) := by decide +kernel
theorem dX12_readsDye_35 : decode cX12_readsDye 35 = .ok (.aload_n 0, 1) := by decide +kernel
theorem dX12_readsDye_36 : decode cX12_readsDye 36 = .ok (.getfield 74, 3) := by decide +kernel
theorem dX12_readsDye_39 : decode cX12_readsDye 39 = .ok (.iastore, 1) := by decide +kernel
theorem dX12_readsDye_40 : decode cX12_readsDye 40 = .ok (.iinc 1 1, 3) := by decide +kernel
theorem dX12_readsDye_43 : decode cX12_readsDye 43 = .ok (.goto (-41), 3) := by decide +kernel
theorem dX12_readsDye_46 : decode cX12_readsDye 46 = .ok (.aload_n 0, 1) := by decide +kernel
theorem dX12_readsDye_47 : decode cX12_readsDye 47 = .ok (.getfield 13, 3) := by decide +kernel
theorem dX12_readsDye_50 : decode cX12_readsDye 50 = .ok (.iconst 1, 1) := by decide +kernel
theorem dX12_readsDye_51 : decode cX12_readsDye 51 = .ok (.dup2, 1) := by decide +kernel
theorem dX12_readsDye_52 : decode cX12_readsDye 52 = .ok (.iaload, 1) := by decide +kernel
theorem dX12_readsDye_53 : decode cX12_readsDye 53 = .ok (.iconst 1, 1) := by decide +kernel
theorem dX12_readsDye_54 : decode cX12_readsDye 54 = .ok (.iadd, 1) := by decide +kernel
theorem dX12_readsDye_55 : decode cX12_readsDye 55 = .ok (.iastore, 1) := by decide +kernel
theorem dX12_readsDye_56 : decode cX12_readsDye 56 = .ok (.iconst 1, 1) := by decide +kernel
theorem dX12_readsDye_57 : decode cX12_readsDye 57 = .ok (.ireturn, 1) := by decide +kernel
theorem dX12_readsStencil_0 : decode cX12_readsStencil 0 = .ok (.iconst (-1), 1) := by decide +kernel
theorem dX12_readsStencil_1 : decode cX12_readsStencil 1 = .ok (.istore_n 1, 1) := by decide +kernel
theorem dX12_readsStencil_2 : decode cX12_readsStencil 2 = .ok (.iconst 0, 1) := by decide +kernel
theorem dX12_readsStencil_3 : decode cX12_readsStencil 3 = .ok (.istore_n 2, 1) := by decide +kernel
theorem dX12_readsStencil_4 : decode cX12_readsStencil 4 = .ok (.aload_n 0, 1) := by decide +kernel
theorem dX12_readsStencil_5 : decode cX12_readsStencil 5 = .ok (.iload_n 1, 1) := by decide +kernel
theorem dX12_readsStencil_6 : decode cX12_readsStencil 6 = .ok (.iconst 1, 1) := by decide +kernel
theorem dX12_readsStencil_7 : decode cX12_readsStencil 7 = .ok (.iadd, 1) := by decide +kernel
theorem dX12_readsStencil_8 : decode cX12_readsStencil 8 = .ok (.aload_n 0, 1) := by decide +kernel
theorem dX12_readsStencil_9 : decode cX12_readsStencil 9 = .ok (.getfield 13, 3) := by decide +kernel
theorem dX12_readsStencil_12 : decode cX12_readsStencil 12 = .ok (.iconst 0, 1) := by decide +kernel
theorem dX12_readsStencil_13 : decode cX12_readsStencil 13 = .ok (.iaload, 1) := by decide +kernel
theorem dX12_readsStencil_14 : decode cX12_readsStencil 14 = .ok (.iconst 1, 1) := by decide +kernel
theorem dX12_readsStencil_15 : decode cX12_readsStencil 15 = .ok (.isub, 1) := by decide +kernel
theorem dX12_readsStencil_16 : decode cX12_readsStencil 16 = .ok (.invokevirtual 81, 3) := by decide +kernel
theorem dX12_readsStencil_19 : decode cX12_readsStencil 19 = .ok (.ifCond .eq 17, 3) := by decide +kernel
theorem dX12_readsStencil_22 : decode cX12_readsStencil 22 = .ok (.aload_n 0, 1) := by decide +kernel
theorem dX12_readsStencil_23 : decode cX12_readsStencil 23 = .ok (.getfield 74, 3) := by decide +kernel
theorem dX12_readsStencil_26 : decode cX12_readsStencil 26 = .ok (.istore_n 1, 1) := by decide +kernel
theorem dX12_readsStencil_27 : decode cX12_readsStencil 27 = .ok (.iload_n 2, 1) := by decide +kernel
theorem dX12_readsStencil_28 : decode cX12_readsStencil 28 = .ok (.iconst 1, 1) := by decide +kernel
theorem dX12_readsStencil_29 : decode cX12_readsStencil 29 = .ok (.iload_n 1, 1) := by decide +kernel
theorem dX12_readsStencil_30 : decode cX12_readsStencil 30 = .ok (.ishl, 1) := by decide +kernel
theorem dX12_readsStencil_31 : decode cX12_readsStencil 31 = .ok (.ior, 1) := by decide +kernel
theorem dX12_readsStencil_32 : decode cX12_readsStencil 32 = .ok (.istore_n 2, 1) := by decide +kernel
theorem dX12_readsStencil_33 : decode cX12_readsStencil 33 = .ok (.goto (-29), 3) := by decide +kernel
theorem dX12_readsStencil_36 : decode cX12_readsStencil 36 = .ok (.aload_n 0, 1) := by decide +kernel
theorem dX12_readsStencil_37 : decode cX12_readsStencil 37 = .ok (.getfield 13, 3) := by decide +kernel
theorem dX12_readsStencil_40 : decode cX12_readsStencil 40 = .ok (.bipush 23, 2) := by decide +kernel
theorem dX12_readsStencil_42 : decode cX12_readsStencil 42 = .ok (.aload_n 0, 1) := by decide +kernel
theorem dX12_readsStencil_43 : decode cX12_readsStencil 43 = .ok (.getfield 13, 3) := by decide +kernel
theorem dX12_readsStencil_46 : decode cX12_readsStencil 46 = .ok (.iconst 2, 1) := by decide +kernel
theorem dX12_readsStencil_47 : decode cX12_readsStencil 47 = .ok (.iaload, 1) := by decide +kernel
theorem dX12_readsStencil_48 : decode cX12_readsStencil 48 = .ok (.iadd, 1) := by decide +kernel
theorem dX12_readsStencil_49 : decode cX12_readsStencil 49 = .ok (.iload_n 2, 1) := by decide +kernel
theorem dX12_readsStencil_50 : decode cX12_readsStencil 50 = .ok (.iastore, 1) := by decide +kernel
theorem dX12_readsStencil_51 : decode cX12_readsStencil 51 = .ok (.aload_n 0, 1) := by decide +kernel
theorem dX12_readsStencil_52 : decode cX12_readsStencil 52 = .ok (.getfield 13, 3) := by decide +kernel
theorem dX12_readsStencil_55 : decode cX12_readsStencil 55 = .ok (.iconst 2, 1) := by decide +kernel
theorem dX12_readsStencil_56 : decode cX12_readsStencil 56 = .ok (.dup2, 1) := by decide +kernel
theorem dX12_readsStencil_57 : decode cX12_readsStencil 57 = .ok (.iaload, 1) := by decide +kernel
theorem dX12_readsStencil_58 : decode cX12_readsStencil 58 = .ok (.iconst 1, 1) := by decide +kernel
theorem dX12_readsStencil_59 : decode cX12_readsStencil 59 = .ok (.iadd, 1) := by decide +kernel
theorem dX12_readsStencil_60 : decode cX12_readsStencil 60 = .ok (.iastore, 1) := by decide +kernel
theorem dX12_readsStencil_61 : decode cX12_readsStencil 61 = .ok (.iload_n 2, 1) := by decide +kernel
theorem dX12_readsStencil_62 : decode cX12_readsStencil 62 = .ok (.ifCond .eq 7, 3) := by decide +kernel
theorem dX12_readsStencil_65 : decode cX12_readsStencil 65 = .ok (.iconst 1, 1) := by decide +kernel
theorem dX12_readsStencil_66 : decode cX12_readsStencil 66 = .ok (.goto 4, 3) := by decide +kernel
theorem dX12_readsStencil_69 : decode cX12_readsStencil 69 = .ok (.iconst 0, 1) := by decide +kernel
theorem dX12_readsStencil_70 : decode cX12_readsStencil 70 = .ok (.ireturn, 1) := by decide +kernel
theorem dX12_another_0 : decode cX12_another 0 = .ok (.aload_n 0, 1) := by decide +kernel
theorem dX12_another_1 : decode cX12_another 1 = .ok (.getfield 13, 3) := by decide +kernel
theorem dX12_another_4 : decode cX12_another 4 = .ok (.iload_n 1, 1) := by decide +kernel
theorem dX12_another_5 : decode cX12_another 5 = .ok (.iaload, 1) := by decide +kernel
theorem dX12_another_6 : decode cX12_another 6 = .ok (.iload_n 2, 1) := by decide +kernel
theorem dX12_another_7 : decode cX12_another 7 = .ok (.if_icmp .ge 16, 3) := by decide +kernel
theorem dX12_another_10 : decode cX12_another 10 = .ok (.aload_n 0, 1) := by decide +kernel
theorem dX12_another_11 : decode cX12_another 11 = .ok (.bipush 44, 2) := by decide +kernel
theorem dX12_another_13 : decode cX12_another 13 = .ok (.invokevirtual 85, 3) := by decide +kernel
theorem dX12_another_16 : decode cX12_another 16 = .ok (.ifCond .eq 7, 3) := by decide +kernel
theorem dX12_another_19 : decode cX12_another 19 = .ok (.iconst 1, 1) := by decide +kernel
theorem dX12_another_20 : decode cX12_another 20 = .ok (.goto 4, 3) := by decide +kernel
theorem dX12_another_23 : decode cX12_another 23 = .ok (.iconst 0, 1) := by decide +kernel
theorem dX12_another_24 : decode cX12_another 24 = .ok (.ireturn, 1) := by decide +kernel
theorem dX12_reads_0 : decode cX12_reads 0 = .ok (.iconst 0, 1) := by decide +kernel
theorem dX12_reads_1 : decode cX12_reads 1 = .ok (.istore_n 1, 1) := by decide +kernel
theorem dX12_reads_2 : decode cX12_reads 2 = .ok (.iload_n 1, 1) := by decide +kernel
theorem dX12_reads_3 : decode cX12_reads 3 = .ok (.bipush 26, 2) := by decide +kernel
theorem dX12_reads_5 : decode cX12_reads 5 = .ok (.if_icmp .ge 16, 3) := by decide +kernel
theorem dX12_reads_8 : decode cX12_reads 8 = .ok (.aload_n 0, 1) := by decide +kernel
theorem dX12_reads_9 : decode cX12_reads 9 = .ok (.getfield 13, 3) := by decide +kernel
theorem dX12_reads_12 : decode cX12_reads 12 = .ok (.iload_n 1, 1) := by decide +kernel
theorem dX12_reads_13 : decode cX12_reads 13 = .ok (.iconst 0, 1) := by decide +kernel
theorem dX12_reads_14 : decode cX12_reads 14 = .ok (.iastore, 1) := by decide +kernel
theorem dX12_reads_15 : decode cX12_reads 15 = .ok (.iinc 1 1, 3) := by decide +kernel
theorem dX12_reads_18 : decode cX12_reads 18 = .ok (.goto (-16), 3) := by decide +kernel
theorem dX12_reads_21 : decode cX12_reads 21 = .ok (.aload_n 0, 1) := by decide +kernel
theorem dX12_reads_22 : decode cX12_reads 22 = .ok (.iconst 0, 1) := by decide +kernel
theorem dX12_reads_23 : decode cX12_reads 23 = .ok (.putfield 67, 3) := by decide +kernel
theorem dX12_reads_26 : decode cX12_reads 26 = .ok (.aload_n 0, 1) := by decide +kernel
theorem dX12_reads_27 : decode cX12_reads 27 = .ok (.bipush 119, 2) := by decide +kernel
theorem dX12_reads_29 : decode cX12_reads 29 = .ok (.invokevirtual 85, 3) := by decide +kernel
theorem dX12_reads_32 : decode cX12_reads 32 = .ok (.ifCond .eq 10, 3) := by decide +kernel
theorem dX12_reads_35 : decode cX12_reads 35 = .ok (.aload_n 0, 1) := by decide +kernel
theorem dX12_reads_36 : decode cX12_reads 36 = .ok (.invokevirtual 89, 3) := by decide +kernel
theorem dX12_reads_39 : decode cX12_reads 39 = .ok (.ifCond .ne 5, 3) := by decide +kernel
theorem dX12_reads_42 : decode cX12_reads 42 = .ok (.iconst 0, 1) := by decide +kernel
theorem dX12_reads_43 : decode cX12_reads 43 = .ok (.ireturn, 1) := by decide +kernel
theorem dX12_reads_44 : decode cX12_reads 44 = .ok (.aload_n 0, 1) := by decide +kernel
theorem dX12_reads_45 : decode cX12_reads 45 = .ok (.iconst 0, 1) := by decide +kernel
theorem dX12_reads_46 : decode cX12_reads 46 = .ok (.bipush 8, 2) := by decide +kernel
theorem dX12_reads_48 : decode cX12_reads 48 = .ok (.invokevirtual 93, 3) := by decide +kernel
theorem dX12_reads_51 : decode cX12_reads 51 = .ok (.ifCond .eq 12, 3) := by decide +kernel
theorem dX12_reads_54 : decode cX12_reads 54 = .ok (.aload_n 0, 1) := by decide +kernel
theorem dX12_reads_55 : decode cX12_reads 55 = .ok (.invokevirtual 89, 3) := by decide +kernel
theorem dX12_reads_58 : decode cX12_reads 58 = .ok (.ifCond .ne (-14), 3) := by decide +kernel
theorem dX12_reads_61 : decode cX12_reads 61 = .ok (.iconst 0, 1) := by decide +kernel
theorem dX12_reads_62 : decode cX12_reads 62 = .ok (.ireturn, 1) := by decide +kernel
theorem dX12_reads_63 : decode cX12_reads 63 = .ok (.aload_n 0, 1) := by decide +kernel
theorem dX12_reads_64 : decode cX12_reads 64 = .ok (.bipush 59, 2) := by decide +kernel
theorem dX12_reads_66 : decode cX12_reads 66 = .ok (.invokevirtual 85, 3) := by decide +kernel
theorem dX12_reads_69 : decode cX12_reads 69 = .ok (.ifCond .eq 10, 3) := by decide +kernel
theorem dX12_reads_72 : decode cX12_reads 72 = .ok (.aload_n 0, 1) := by decide +kernel
theorem dX12_reads_73 : decode cX12_reads 73 = .ok (.invokevirtual 96, 3) := by decide +kernel
theorem dX12_reads_76 : decode cX12_reads 76 = .ok (.ifCond .ne 5, 3) := by decide +kernel
theorem dX12_reads_79 : decode cX12_reads 79 = .ok (.iconst 0, 1) := by decide +kernel
theorem dX12_reads_80 : decode cX12_reads 80 = .ok (.ireturn, 1) := by decide +kernel
theorem dX12_reads_81 : decode cX12_reads 81 = .ok (.aload_n 0, 1) := by decide +kernel
theorem dX12_reads_82 : decode cX12_reads 82 = .ok (.iconst 1, 1) := by decide +kernel
theorem dX12_reads_83 : decode cX12_reads 83 = .ok (.iconst 4, 1) := by decide +kernel
theorem dX12_reads_84 : decode cX12_reads 84 = .ok (.invokevirtual 93, 3) := by decide +kernel
theorem dX12_reads_87 : decode cX12_reads 87 = .ok (.ifCond .eq 12, 3) := by decide +kernel
theorem dX12_reads_90 : decode cX12_reads 90 = .ok (.aload_n 0, 1) := by decide +kernel
theorem dX12_reads_91 : decode cX12_reads 91 = .ok (.invokevirtual 96, 3) := by decide +kernel
theorem dX12_reads_94 : decode cX12_reads 94 = .ok (.ifCond .ne (-13), 3) := by decide +kernel
theorem dX12_reads_97 : decode cX12_reads 97 = .ok (.iconst 0, 1) := by decide +kernel
theorem dX12_reads_98 : decode cX12_reads 98 = .ok (.ireturn, 1) := by decide +kernel
theorem dX12_reads_99 : decode cX12_reads 99 = .ok (.aload_n 0, 1) := by decide +kernel
theorem dX12_reads_100 : decode cX12_reads 100 = .ok (.bipush 59, 2) := by decide +kernel
theorem dX12_reads_102 : decode cX12_reads 102 = .ok (.invokevirtual 85, 3) := by decide +kernel
theorem dX12_reads_105 : decode cX12_reads 105 = .ok (.ifCond .eq 10, 3) := by decide +kernel
theorem dX12_reads_108 : decode cX12_reads 108 = .ok (.aload_n 0, 1) := by decide +kernel
theorem dX12_reads_109 : decode cX12_reads 109 = .ok (.invokevirtual 99, 3) := by decide +kernel
theorem dX12_reads_112 : decode cX12_reads 112 = .ok (.ifCond .ne 5, 3) := by decide +kernel
theorem dX12_reads_115 : decode cX12_reads 115 = .ok (.iconst 0, 1) := by decide +kernel
theorem dX12_reads_116 : decode cX12_reads 116 = .ok (.ireturn, 1) := by decide +kernel
theorem dX12_reads_117 : decode cX12_reads 117 = .ok (.aload_n 0, 1) := by decide +kernel
theorem dX12_reads_118 : decode cX12_reads 118 = .ok (.iconst 2, 1) := by decide +kernel
theorem dX12_reads_119 : decode cX12_reads 119 = .ok (.iconst 3, 1) := by decide +kernel
theorem dX12_reads_120 : decode cX12_reads 120 = .ok (.invokevirtual 93, 3) := by decide +kernel
theorem dX12_reads_123 : decode cX12_reads 123 = .ok (.ifCond .eq 12, 3) := by decide +kernel
theorem dX12_reads_126 : decode cX12_reads 126 = .ok (.aload_n 0, 1) := by decide +kernel
theorem dX12_reads_127 : decode cX12_reads 127 = .ok (.invokevirtual 99, 3) := by decide +kernel
theorem dX12_reads_130 : decode cX12_reads 130 = .ok (.ifCond .ne (-13), 3) := by decide +kernel
theorem dX12_reads_133 : decode cX12_reads 133 = .ok (.iconst 0, 1) := by decide +kernel
theorem dX12_reads_134 : decode cX12_reads 134 = .ok (.ireturn, 1) := by decide +kernel
theorem dX12_reads_135 : decode cX12_reads 135 = .ok (.aload_n 0, 1) := by decide +kernel
theorem dX12_reads_136 : decode cX12_reads 136 = .ok (.getfield 67, 3) := by decide +kernel
theorem dX12_reads_139 : decode cX12_reads 139 = .ok (.aload_n 0, 1) := by decide +kernel
theorem dX12_reads_140 : decode cX12_reads 140 = .ok (.getfield 63, 3) := by decide +kernel
theorem dX12_reads_143 : decode cX12_reads 143 = .ok (.if_icmp .ne 7, 3) := by decide +kernel
theorem dX12_reads_146 : decode cX12_reads 146 = .ok (.iconst 1, 1) := by decide +kernel
theorem dX12_reads_147 : decode cX12_reads 147 = .ok (.goto 4, 3) := by decide +kernel
theorem dX12_reads_150 : decode cX12_reads 150 = .ok (.iconst 0, 1) := by decide +kernel
theorem dX12_reads_151 : decode cX12_reads 151 = .ok (.ireturn, 1) := by decide +kernel
