theorem dX3_taken_0 : decode cX3_taken 0 = .ok (.iload_n 0, 1) := by decide +kernel
theorem dX3_taken_1 : decode cX3_taken 1 = .ok (.tableswitch 87 2 5 #[31, 42, 54, 68], 31) := by decide +kernel
theorem dX3_taken_32 : decode cX3_taken 32 = .ok (.iload_n 1, 1) := by decide +kernel
theorem dX3_taken_33 : decode cX3_taken 33 = .ok (.iconst 2, 1) := by decide +kernel
theorem dX3_taken_34 : decode cX3_taken 34 = .ok (.if_icmp .ge 7, 3) := by decide +kernel
theorem dX3_taken_37 : decode cX3_taken 37 = .ok (.iload_n 1, 1) := by decide +kernel
theorem dX3_taken_38 : decode cX3_taken 38 = .ok (.goto 4, 3) := by decide +kernel
theorem dX3_taken_41 : decode cX3_taken 41 = .ok (.iconst 2, 1) := by decide +kernel
theorem dX3_taken_42 : decode cX3_taken 42 = .ok (.ireturn, 1) := by decide +kernel
theorem dX3_taken_43 : decode cX3_taken 43 = .ok (.iload_n 1, 1) := by decide +kernel
theorem dX3_taken_44 : decode cX3_taken 44 = .ok (.ifCond .ne 7, 3) := by decide +kernel
theorem dX3_taken_47 : decode cX3_taken 47 = .ok (.iconst 0, 1) := by decide +kernel
theorem dX3_taken_48 : decode cX3_taken 48 = .ok (.goto 6, 3) := by decide +kernel
theorem dX3_taken_51 : decode cX3_taken 51 = .ok (.iload_n 1, 1) := by decide +kernel
theorem dX3_taken_52 : decode cX3_taken 52 = .ok (.iconst 1, 1) := by decide +kernel
theorem dX3_taken_53 : decode cX3_taken 53 = .ok (.iadd, 1) := by decide +kernel
theorem dX3_taken_54 : decode cX3_taken 54 = .ok (.ireturn, 1) := by decide +kernel
theorem dX3_taken_55 : decode cX3_taken 55 = .ok (.iload_n 1, 1) := by decide +kernel
theorem dX3_taken_56 : decode cX3_taken 56 = .ok (.ifCond .ne 7, 3) := by decide +kernel
theorem dX3_taken_59 : decode cX3_taken 59 = .ok (.iconst 0, 1) := by decide +kernel
theorem dX3_taken_60 : decode cX3_taken 60 = .ok (.goto 8, 3) := by decide +kernel
theorem dX3_taken_63 : decode cX3_taken 63 = .ok (.iload_n 1, 1) := by decide +kernel
theorem dX3_taken_64 : decode cX3_taken 64 = .ok (.iconst 2, 1) := by decide +kernel
theorem dX3_taken_65 : decode cX3_taken 65 = .ok (.idiv, 1) := by decide +kernel
theorem dX3_taken_66 : decode cX3_taken 66 = .ok (.iconst 1, 1) := by decide +kernel
theorem dX3_taken_67 : decode cX3_taken 67 = .ok (.iadd, 1) := by decide +kernel
theorem dX3_taken_68 : decode cX3_taken 68 = .ok (.ireturn, 1) := by decide +kernel
theorem dX3_taken_69 : decode cX3_taken 69 = .ok (.iload_n 1, 1) := by decide +kernel
theorem dX3_taken_70 : decode cX3_taken 70 = .ok (.ifCond .eq 8, 3) := by decide +kernel
theorem dX3_taken_73 : decode cX3_taken 73 = .ok (.iload_n 2, 1) := by decide +kernel
theorem dX3_taken_74 : decode cX3_taken 74 = .ok (.iconst 4, 1) := by decide +kernel
theorem dX3_taken_75 : decode cX3_taken 75 = .ok (.if_icmp .lt 7, 3) := by decide +kernel
theorem dX3_taken_78 : decode cX3_taken 78 = .ok (.iconst 0, 1) := by decide +kernel
theorem dX3_taken_79 : decode cX3_taken 79 = .ok (.goto 8, 3) := by decide +kernel
theorem dX3_taken_82 : decode cX3_taken 82 = .ok (.iload_n 1, 1) := by decide +kernel
theorem dX3_taken_83 : decode cX3_taken 83 = .ok (.iconst 2, 1) := by decide +kernel
theorem dX3_taken_84 : decode cX3_taken 84 = .ok (.idiv, 1) := by decide +kernel
theorem dX3_taken_85 : decode cX3_taken 85 = .ok (.iconst 1, 1) := by decide +kernel
theorem dX3_taken_86 : decode cX3_taken 86 = .ok (.iadd, 1) := by decide +kernel
theorem dX3_taken_87 : decode cX3_taken 87 = .ok (.ireturn, 1) := by decide +kernel
theorem dX3_taken_88 : decode cX3_taken 88 = .ok (.iload_n 1, 1) := by decide +kernel
theorem dX3_taken_89 : decode cX3_taken 89 = .ok (.ireturn, 1) := by decide +kernel
theorem dX3_layersCracked_0 : decode cX3_layersCracked 0 = .ok (.iload_n 0, 1) := by decide +kernel
theorem dX3_layersCracked_1 : decode cX3_layersCracked 1 = .ok (.lookupswitch 31 #[(3, 27), (4, 29)], 27) := by decide +kernel
theorem dX3_layersCracked_28 : decode cX3_layersCracked 28 = .ok (.iconst 2, 1) := by decide +kernel
theorem dX3_layersCracked_29 : decode cX3_layersCracked 29 = .ok (.ireturn, 1) := by decide +kernel
theorem dX3_layersCracked_30 : decode cX3_layersCracked 30 = .ok (.iconst 0, 1) := by decide +kernel
theorem dX3_layersCracked_31 : decode cX3_layersCracked 31 = .ok (.ireturn, 1) := by decide +kernel
theorem dX3_layersCracked_32 : decode cX3_layersCracked 32 = .ok (.iconst 1, 1) := by decide +kernel
theorem dX3_layersCracked_33 : decode cX3_layersCracked 33 = .ok (.ireturn, 1) := by decide +kernel
theorem dX3_thatTake_0 : decode cX3_thatTake 0 = .ok (.iconst 0, 1) := by decide +kernel
theorem dX3_thatTake_1 : decode cX3_thatTake 1 = .ok (.istore 5, 2) := by decide +kernel
theorem dX3_thatTake_3 : decode cX3_thatTake 3 = .ok (.iconst 1, 1) := by decide +kernel
theorem dX3_thatTake_4 : decode cX3_thatTake 4 = .ok (.istore 6, 2) := by decide +kernel
theorem dX3_thatTake_6 : decode cX3_thatTake 6 = .ok (.iload 6, 2) := by decide +kernel
theorem dX3_thatTake_8 : decode cX3_thatTake 8 = .ok (.iconst 5, 1) := by decide +kernel
theorem dX3_thatTake_9 : decode cX3_thatTake 9 = .ok (.if_icmp .gt 40, 3) := by decide +kernel
theorem dX3_thatTake_12 : decode cX3_thatTake 12 = .ok (.iload_n 0, 1) := by decide +kernel
theorem dX3_thatTake_13 : decode cX3_thatTake 13 = .ok (.iload 6, 2) := by decide +kernel
theorem dX3_thatTake_15 : decode cX3_thatTake 15 = .ok (.ishr, 1) := by decide +kernel
theorem dX3_thatTake_16 : decode cX3_thatTake 16 = .ok (.iconst 1, 1) := by decide +kernel
theorem dX3_thatTake_17 : decode cX3_thatTake 17 = .ok (.iand, 1) := by decide +kernel
theorem dX3_thatTake_18 : decode cX3_thatTake 18 = .ok (.ifCond .eq 25, 3) := by decide +kernel
theorem dX3_thatTake_21 : decode cX3_thatTake 21 = .ok (.iload 6, 2) := by decide +kernel
theorem dX3_thatTake_23 : decode cX3_thatTake 23 = .ok (.iload_n 2, 1) := by decide +kernel
theorem dX3_thatTake_24 : decode cX3_thatTake 24 = .ok (.iload_n 1, 1) := by decide +kernel
theorem dX3_thatTake_25 : decode cX3_thatTake 25 = .ok (.invokestatic 13, 3) := by decide +kernel
theorem dX3_thatTake_28 : decode cX3_thatTake 28 = .ok (.i2l, 1) := by decide +kernel
theorem dX3_thatTake_29 : decode cX3_thatTake 29 = .ok (.lload_n 3, 1) := by decide +kernel
theorem dX3_thatTake_30 : decode cX3_thatTake 30 = .ok (.lcmp, 1) := by decide +kernel
theorem dX3_thatTake_31 : decode cX3_thatTake 31 = .ok (.ifCond .ne 12, 3) := by decide +kernel
theorem dX3_thatTake_34 : decode cX3_thatTake 34 = .ok (.iload 5, 2) := by decide +kernel
theorem dX3_thatTake_36 : decode cX3_thatTake 36 = .ok (.iconst 1, 1) := by decide +kernel
theorem dX3_thatTake_37 : decode cX3_thatTake 37 = .ok (.iload 6, 2) := by decide +kernel
theorem dX3_thatTake_39 : decode cX3_thatTake 39 = .ok (.ishl, 1) := by decide +kernel
theorem dX3_thatTake_40 : decode cX3_thatTake 40 = .ok (.ior, 1) := by decide +kernel
theorem dX3_thatTake_41 : decode cX3_thatTake 41 = .ok (.istore 5, 2) := by decide +kernel
theorem dX3_thatTake_43 : decode cX3_thatTake 43 = .ok (.iinc 6 1, 3) := by decide +kernel
theorem dX3_thatTake_46 : decode cX3_thatTake 46 = .ok (.goto (-40), 3) := by decide +kernel
theorem dX3_thatTake_49 : decode cX3_thatTake 49 = .ok (.iload 5, 2) := by decide +kernel
theorem dX3_thatTake_51 : decode cX3_thatTake 51 = .ok (.ireturn, 1) := by decide +kernel
theorem dX3_bestTry_0 : decode cX3_bestTry 0 = .ok (.iconst 1, 1) := by decide +kernel
theorem dX3_bestTry_1 : decode cX3_bestTry 1 = .ok (.istore_n 2, 1) := by decide +kernel
theorem dX3_bestTry_2 : decode cX3_bestTry 2 = .ok (.iload_n 0, 1) := by decide +kernel
theorem dX3_bestTry_3 : decode cX3_bestTry 3 = .ok (.iload_n 1, 1) := by decide +kernel
theorem dX3_bestTry_4 : decode cX3_bestTry 4 = .ok (.iconst 1, 1) := by decide +kernel
theorem dX3_bestTry_5 : decode cX3_bestTry 5 = .ok (.invokestatic 17, 3) := by decide +kernel
theorem dX3_bestTry_8 : decode cX3_bestTry 8 = .ok (.istore_n 3, 1) := by decide +kernel
theorem dX3_bestTry_9 : decode cX3_bestTry 9 = .ok (.iconst 2, 1) := by decide +kernel
theorem dX3_bestTry_10 : decode cX3_bestTry 10 = .ok (.istore 4, 2) := by decide +kernel
theorem dX3_bestTry_12 : decode cX3_bestTry 12 = .ok (.iload 4, 2) := by decide +kernel
theorem dX3_bestTry_14 : decode cX3_bestTry 14 = .ok (.iconst 3, 1) := by decide +kernel
theorem dX3_bestTry_15 : decode cX3_bestTry 15 = .ok (.if_icmp .gt 30, 3) := by decide +kernel
theorem dX3_bestTry_18 : decode cX3_bestTry 18 = .ok (.iload_n 0, 1) := by decide +kernel
theorem dX3_bestTry_19 : decode cX3_bestTry 19 = .ok (.iload_n 1, 1) := by decide +kernel
theorem dX3_bestTry_20 : decode cX3_bestTry 20 = .ok (.iload 4, 2) := by decide +kernel
theorem dX3_bestTry_22 : decode cX3_bestTry 22 = .ok (.invokestatic 17, 3) := by decide +kernel
theorem dX3_bestTry_25 : decode cX3_bestTry 25 = .ok (.istore 5, 2) := by decide +kernel
theorem dX3_bestTry_27 : decode cX3_bestTry 27 = .ok (.iload 5, 2) := by decide +kernel
theorem dX3_bestTry_29 : decode cX3_bestTry 29 = .ok (.iload_n 3, 1) := by decide +kernel
theorem dX3_bestTry_30 : decode cX3_bestTry 30 = .ok (.if_icmp .ge 9, 3) := by decide +kernel
theorem dX3_bestTry_33 : decode cX3_bestTry 33 = .ok (.iload 5, 2) := by decide +kernel
theorem dX3_bestTry_35 : decode cX3_bestTry 35 = .ok (.istore_n 3, 1) := by decide +kernel
theorem dX3_bestTry_36 : decode cX3_bestTry 36 = .ok (.iload 4, 2) := by decide +kernel
theorem dX3_bestTry_38 : decode cX3_bestTry 38 = .ok (.istore_n 2, 1) := by decide +kernel
theorem dX3_bestTry_39 : decode cX3_bestTry 39 = .ok (.iinc 4 1, 3) := by decide +kernel
theorem dX3_bestTry_42 : decode cX3_bestTry 42 = .ok (.goto (-30), 3) := by decide +kernel
theorem dX3_bestTry_45 : decode cX3_bestTry 45 = .ok (.iload_n 2, 1) := by decide +kernel
theorem dX3_bestTry_46 : decode cX3_bestTry 46 = .ok (.ireturn, 1) := by decide +kernel
theorem dX3_greatestPart_0 : decode cX3_greatestPart 0 = .ok (.iconst 0, 1) := by decide +kernel
theorem dX3_greatestPart_1 : decode cX3_greatestPart 1 = .ok (.istore_n 3, 1) := by decide +kernel
theorem dX3_greatestPart_2 : decode cX3_greatestPart 2 = .ok (.iconst 0, 1) := by decide +kernel
theorem dX3_greatestPart_3 : decode cX3_greatestPart 3 = .ok (.istore 4, 2) := by decide +kernel
theorem dX3_greatestPart_5 : decode cX3_greatestPart 5 = .ok (.iload 4, 2) := by decide +kernel
theorem dX3_greatestPart_7 : decode cX3_greatestPart 7 = .ok (.iconst 4, 1) := by decide +kernel
theorem dX3_greatestPart_8 : decode cX3_greatestPart 8 = .ok (.if_icmp .gt 26, 3) := by decide +kernel
theorem dX3_greatestPart_11 : decode cX3_greatestPart 11 = .ok (.iload_n 3, 1) := by decide +kernel
theorem dX3_greatestPart_12 : decode cX3_greatestPart 12 = .ok (.iload_n 0, 1) := by decide +kernel
theorem dX3_greatestPart_13 : decode cX3_greatestPart 13 = .ok (.iload_n 1, 1) := by decide +kernel
theorem dX3_greatestPart_14 : decode cX3_greatestPart 14 = .ok (.iload_n 2, 1) := by decide +kernel
theorem dX3_greatestPart_15 : decode cX3_greatestPart 15 = .ok (.iload 4, 2) := by decide +kernel
theorem dX3_greatestPart_17 : decode cX3_greatestPart 17 = .ok (.i2l, 1) := by decide +kernel
theorem dX3_greatestPart_18 : decode cX3_greatestPart 18 = .ok (.invokestatic 20, 3) := by decide +kernel
theorem dX3_greatestPart_21 : decode cX3_greatestPart 21 = .ok (.invokestatic 24, 3) := by decide +kernel
theorem dX3_greatestPart_24 : decode cX3_greatestPart 24 = .ok (.invokestatic 30, 3) := by decide +kernel
theorem dX3_greatestPart_27 : decode cX3_greatestPart 27 = .ok (.istore_n 3, 1) := by decide +kernel
theorem dX3_greatestPart_28 : decode cX3_greatestPart 28 = .ok (.iinc 4 1, 3) := by decide +kernel
theorem dX3_greatestPart_31 : decode cX3_greatestPart 31 = .ok (.goto (-26), 3) := by decide +kernel
theorem dX3_greatestPart_34 : decode cX3_greatestPart 34 = .ok (.iload_n 3, 1) := by decide +kernel
theorem dX3_greatestPart_35 : decode cX3_greatestPart 35 = .ok (.ireturn, 1) := by decide +kernel
theorem dX4_init_0 : decode cX4_init 0 = .ok (.aload_n 0, 1) := by decide +kernel
theorem dX4_init_1 : decode cX4_init 1 = .ok (.invokespecial 1, 3) := by decide +kernel
theorem dX4_init_4 : decode cX4_init 4 = .ok (.aload_n 0, 1) := by decide +kernel
theorem dX4_init_5 : decode cX4_init 5 = .ok (.bipush 24, 2) := by decide +kernel
theorem dX4_init_7 : decode cX4_init 7 = .ok (.bipush 8, 2) := by decide +kernel
theorem dX4_init_9 : decode cX4_init 9 = .ok (.multianewarray 11 2, 4) := by decide +kernel
theorem dX4_init_13 : decode cX4_init 13 = .ok (.putfield 13, 3) := by decide +kernel
theorem dX4_init_16 : decode cX4_init 16 = .ok (.return_, 1) := by decide +kernel
theorem dX4_forget_0 : decode cX4_forget 0 = .ok (.aload_n 0, 1) := by decide +kernel
theorem dX4_forget_1 : decode cX4_forget 1 = .ok (.iconst 0, 1) := by decide +kernel
theorem dX4_forget_2 : decode cX4_forget 2 = .ok (.putfield 16, 3) := by decide +kernel
theorem dX4_forget_5 : decode cX4_forget 5 = .ok (.return_, 1) := by decide +kernel
theorem dX4_keep_0 : decode cX4_keep 0 = .ok (.aload_n 1, 1) := by decide +kernel
theorem dX4_keep_1 : decode cX4_keep 1 = .ok (.iconst 0, 1) := by decide +kernel
theorem dX4_keep_2 : decode cX4_keep 2 = .ok (.aload_n 0, 1) := by decide +kernel
theorem dX4_keep_3 : decode cX4_keep 3 = .ok (.getfield 13, 3) := by decide +kernel
theorem dX4_keep_6 : decode cX4_keep 6 = .ok (.aload_n 0, 1) := by decide +kernel
theorem dX4_keep_7 : decode cX4_keep 7 = .ok (.getfield 20, 3) := by decide +kernel
theorem dX4_keep_10 : decode cX4_keep 10 = .ok (.aaload, 1) := by decide +kernel
theorem dX4_keep_11 : decode cX4_keep 11 = .ok (.iconst 0, 1) := by decide +kernel
theorem dX4_keep_12 : decode cX4_keep 12 = .ok (.bipush 8, 2) := by decide +kernel
theorem dX4_keep_14 : decode cX4_keep 14 = .ok (.invokestatic 23, 3) := by decide +kernel
theorem dX4_keep_17 : decode cX4_keep 17 = .ok (.aload_n 0, 1) := by decide +kernel
theorem dX4_keep_18 : decode cX4_keep 18 = .ok (.aload_n 0, 1) := by decide +kernel
theorem dX4_keep_19 : decode cX4_keep 19 = .ok (.getfield 20, 3) := by decide +kernel
theorem dX4_keep_22 : decode cX4_keep 22 = .ok (.iconst 1, 1) := by decide +kernel
theorem dX4_keep_23 : decode cX4_keep 23 = .ok (.iadd, 1) := by decide +kernel
theorem dX4_keep_24 : decode cX4_keep 24 = .ok (.bipush 24, 2) := by decide +kernel
theorem dX4_keep_26 : decode cX4_keep 26 = .ok (.irem, 1) := by decide +kernel
theorem dX4_keep_27 : decode cX4_keep 27 = .ok (.putfield 20, 3) := by decide +kernel
theorem dX4_keep_30 : decode cX4_keep 30 = .ok (.aload_n 0, 1) := by decide +kernel
theorem dX4_keep_31 : decode cX4_keep 31 = .ok (.aload_n 0, 1) := by decide +kernel
theorem dX4_keep_32 : decode cX4_keep 32 = .ok (.getfield 16, 3) := by decide +kernel
theorem dX4_keep_35 : decode cX4_keep 35 = .ok (.iconst 1, 1) := by decide +kernel
theorem dX4_keep_36 : decode cX4_keep 36 = .ok (.iadd, 1) := by decide +kernel
theorem dX4_keep_37 : decode cX4_keep 37 = .ok (.bipush 24, 2) := by decide +kernel
theorem dX4_keep_39 : decode cX4_keep 39 = .ok (.invokestatic 29, 3) := by decide +kernel
theorem dX4_keep_42 : decode cX4_keep 42 = .ok (.putfield 16, 3) := by decide +kernel
theorem dX4_keep_45 : decode cX4_keep 45 = .ok (.return_, 1) := by decide +kernel
theorem dX4_takeBack_0 : decode cX4_takeBack 0 = .ok (.aload_n 0, 1) := by decide +kernel
theorem dX4_takeBack_1 : decode cX4_takeBack 1 = .ok (.getfield 16, 3) := by decide +kernel
theorem dX4_takeBack_4 : decode cX4_takeBack 4 = .ok (.ifCond .ne 5, 3) := by decide +kernel
theorem dX4_takeBack_7 : decode cX4_takeBack 7 = .ok (.iconst 0, 1) := by decide +kernel
theorem dX4_takeBack_8 : decode cX4_takeBack 8 = .ok (.ireturn, 1) := by decide +kernel
theorem dX4_takeBack_9 : decode cX4_takeBack 9 = .ok (.aload_n 0, 1) := by decide +kernel
theorem dX4_takeBack_10 : decode cX4_takeBack 10 = .ok (.aload_n 0, 1) := by decide +kernel
theorem dX4_takeBack_11 : decode cX4_takeBack 11 = .ok (.getfield 20, 3) := by decide +kernel
theorem dX4_takeBack_14 : decode cX4_takeBack 14 = .ok (.bipush 24, 2) := by decide +kernel
theorem dX4_takeBack_16 : decode cX4_takeBack 16 = .ok (.iadd, 1) := by decide +kernel
theorem dX4_takeBack_17 : decode cX4_takeBack 17 = .ok (.iconst 1, 1) := by decide +kernel
theorem dX4_takeBack_18 : decode cX4_takeBack 18 = .ok (.isub, 1) := by decide +kernel
theorem dX4_takeBack_19 : decode cX4_takeBack 19 = .ok (.bipush 24, 2) := by decide +kernel
theorem dX4_takeBack_21 : decode cX4_takeBack 21 = .ok (.irem, 1) := by decide +kernel
theorem dX4_takeBack_22 : decode cX4_takeBack 22 = .ok (.putfield 20, 3) := by decide +kernel
theorem dX4_takeBack_25 : decode cX4_takeBack 25 = .ok (.aload_n 0, 1) := by decide +kernel
theorem dX4_takeBack_26 : decode cX4_takeBack 26 = .ok (.dup, 1) := by decide +kernel
theorem dX4_takeBack_27 : decode cX4_takeBack 27 = .ok (.getfield 16, 3) := by decide +kernel
theorem dX4_takeBack_30 : decode cX4_takeBack 30 = .ok (.iconst 1, 1) := by decide +kernel
theorem dX4_takeBack_31 : decode cX4_takeBack 31 = .ok (.isub, 1) := by decide +kernel
theorem dX4_takeBack_32 : decode cX4_takeBack 32 = .ok (.putfield 16, 3) := by decide +kernel
theorem dX4_takeBack_35 : decode cX4_takeBack 35 = .ok (.aload_n 0, 1) := by decide +kernel
theorem dX4_takeBack_36 : decode cX4_takeBack 36 = .ok (.getfield 13, 3) := by decide +kernel
theorem dX4_takeBack_39 : decode cX4_takeBack 39 = .ok (.aload_n 0, 1) := by decide +kernel
theorem dX4_takeBack_40 : decode cX4_takeBack 40 = .ok (.getfield 20, 3) := by decide +kernel
theorem dX4_takeBack_43 : decode cX4_takeBack 43 = .ok (.aaload, 1) := by decide +kernel
theorem dX4_takeBack_44 : decode cX4_takeBack 44 = .ok (.iconst 0, 1) := by decide +kernel
theorem dX4_takeBack_45 : decode cX4_takeBack 45 = .ok (.aload_n 1, 1) := by decide +kernel
theorem dX4_takeBack_46 : decode cX4_takeBack 46 = .ok (.iconst 0, 1) := by decide +kernel
theorem dX4_takeBack_47 : decode cX4_takeBack 47 = .ok (.bipush 8, 2) := by decide +kernel
theorem dX4_takeBack_49 : decode cX4_takeBack 49 = .ok (.invokestatic 23, 3) := by decide +kernel
theorem dX4_takeBack_52 : decode cX4_takeBack 52 = .ok (.iconst 1, 1) := by decide +kernel
theorem dX4_takeBack_53 : decode cX4_takeBack 53 = .ok (.ireturn, 1) := by decide +kernel
theorem dX5_init_0 : decode cX5_init 0 = .ok (.aload_n 0, 1) := by decide +kernel
theorem dX5_init_1 : decode cX5_init 1 = .ok (.invokespecial 3, 3) := by decide +kernel
theorem dX5_init_4 : decode cX5_init 4 = .ok (.aload_n 0, 1) := by decide +kernel
theorem dX5_init_5 : decode cX5_init 5 = .ok (.iconst 4, 1) := by decide +kernel
theorem dX5_init_6 : decode cX5_init 6 = .ok (.newarray .int, 2) := by decide +kernel
theorem dX5_init_8 : decode cX5_init 8 = .ok (.putfield 9, 3) := by decide +kernel
theorem dX5_init_11 : decode cX5_init 11 = .ok (.aload_n 0, 1) := by decide +kernel
theorem dX5_init_12 : decode cX5_init 12 = .ok (.iconst 4, 1) := by decide +kernel
theorem dX5_init_13 : decode cX5_init 13 = .ok (.newarray .int, 2) := by decide +kernel
theorem dX5_init_15 : decode cX5_init 15 = .ok (.putfield 15, 3) := by decide +kernel
theorem dX5_init_18 : decode cX5_init 18 = .ok (.aload_n 0, 1) := by decide +kernel
theorem dX5_init_19 : decode cX5_init 19 = .ok (.iconst 5, 1) := by decide +kernel
theorem dX5_init_20 : decode cX5_init 20 = .ok (.bipush 8, 2) := by decide +kernel
theorem dX5_init_22 : decode cX5_init 22 = .ok (.multianewarray 20 2, 4) := by decide +kernel
theorem dX5_init_26 : decode cX5_init 26 = .ok (.putfield 22, 3) := by decide +kernel
theorem dX5_init_29 : decode cX5_init 29 = .ok (.return_, 1) := by decide +kernel
theorem dX5_search_0 : decode cX5_search 0 = .ok (.aload_n 1, 1) := by decide +kernel
theorem dX5_search_1 : decode cX5_search 1 = .ok (.getfield 25, 3) := by decide +kernel
theorem dX5_search_4 : decode cX5_search 4 = .ok (.iconst 0, 1) := by decide +kernel
theorem dX5_search_5 : decode cX5_search 5 = .ok (.aload_n 0, 1) := by decide +kernel
theorem dX5_search_6 : decode cX5_search 6 = .ok (.getfield 22, 3) := by decide +kernel
theorem dX5_search_9 : decode cX5_search 9 = .ok (.iconst 0, 1) := by decide +kernel
theorem dX5_search_10 : decode cX5_search 10 = .ok (.aaload, 1) := by decide +kernel
theorem dX5_search_11 : decode cX5_search 11 = .ok (.iconst 0, 1) := by decide +kernel
theorem dX5_search_12 : decode cX5_search 12 = .ok (.bipush 8, 2) := by decide +kernel
theorem dX5_search_14 : decode cX5_search 14 = .ok (.invokestatic 28, 3) := by decide +kernel
theorem dX5_search_17 : decode cX5_search 17 = .ok (.aload_n 0, 1) := by decide +kernel
theorem dX5_search_18 : decode cX5_search 18 = .ok (.aload_n 1, 1) := by decide +kernel
theorem dX5_search_19 : decode cX5_search 19 = .ok (.aload_n 1, 1) := by decide +kernel
theorem dX5_search_20 : decode cX5_search 20 = .ok (.getfield 25, 3) := by decide +kernel
theorem dX5_search_23 : decode cX5_search 23 = .ok (.invokevirtual 34, 3) := by decide +kernel
theorem dX5_search_26 : decode cX5_search 26 = .ok (.putfield 38, 3) := by decide +kernel
theorem dX5_search_29 : decode cX5_search 29 = .ok (.aload_n 0, 1) := by decide +kernel
theorem dX5_search_30 : decode cX5_search 30 = .ok (.iconst 0, 1) := by decide +kernel
theorem dX5_search_31 : decode cX5_search 31 = .ok (.putfield 42, 3) := by decide +kernel
theorem dX5_search_34 : decode cX5_search 34 = .ok (.iconst 1, 1) := by decide +kernel
theorem dX5_search_35 : decode cX5_search 35 = .ok (.istore_n 3, 1) := by decide +kernel
theorem dX5_search_36 : decode cX5_search 36 = .ok (.iload_n 3, 1) := by decide +kernel
theorem dX5_search_37 : decode cX5_search 37 = .ok (.iload_n 2, 1) := by decide +kernel
theorem dX5_search_38 : decode cX5_search 38 = .ok (.if_icmp .gt 27, 3) := by decide +kernel
theorem dX5_search_41 : decode cX5_search 41 = .ok (.aload_n 0, 1) := by decide +kernel
theorem dX5_search_42 : decode cX5_search 42 = .ok (.getfield 38, 3) := by decide +kernel
theorem dX5_search_45 : decode cX5_search 45 = .ok (.aload_n 1, 1) := by decide +kernel
theorem dX5_search_46 : decode cX5_search 46 = .ok (.getfield 45, 3) := by decide +kernel
theorem dX5_search_49 : decode cX5_search 49 = .ok (.if_icmp .ge 16, 3) := by decide +kernel
theorem dX5_search_52 : decode cX5_search 52 = .ok (.aload_n 0, 1) := by decide +kernel
theorem dX5_search_53 : decode cX5_search 53 = .ok (.aload_n 1, 1) := by decide +kernel
theorem dX5_search_54 : decode cX5_search 54 = .ok (.iconst 0, 1) := by decide +kernel
theorem dX5_search_55 : decode cX5_search 55 = .ok (.iload_n 3, 1) := by decide +kernel
theorem dX5_search_56 : decode cX5_search 56 = .ok (.invokevirtual 48, 3) := by decide +kernel
theorem dX5_search_59 : decode cX5_search 59 = .ok (.iinc 3 1, 3) := by decide +kernel
theorem dX5_search_62 : decode cX5_search 62 = .ok (.goto (-26), 3) := by decide +kernel
theorem dX5_search_65 : decode cX5_search 65 = .ok (.return_, 1) := by decide +kernel
theorem dX5_extend_0 : decode cX5_extend 0 = .ok (.iload_n 2, 1) := by decide +kernel
theorem dX5_extend_1 : decode cX5_extend 1 = .ok (.iconst 4, 1) := by decide +kernel
theorem dX5_extend_2 : decode cX5_extend 2 = .ok (.if_icmp .lt 4, 3) := by decide +kernel
theorem dX5_extend_5 : decode cX5_extend 5 = .ok (.return_, 1) := by decide +kernel
theorem dX5_extend_6 : decode cX5_extend 6 = .ok (.iload_n 2, 1) := by decide +kernel
theorem dX5_extend_7 : decode cX5_extend 7 = .ok (.iconst 1, 1) := by decide +kernel
theorem dX5_extend_8 : decode cX5_extend 8 = .ok (.iadd, 1) := by decide +kernel
theorem dX5_extend_9 : decode cX5_extend 9 = .ok (.iload_n 3, 1) := by decide +kernel
theorem dX5_extend_10 : decode cX5_extend 10 = .ok (.if_icmp .ne 7, 3) := by decide +kernel
theorem dX5_extend_13 : decode cX5_extend 13 = .ok (.iconst 1, 1) := by decide +kernel
theorem dX5_extend_14 : decode cX5_extend 14 = .ok (.goto 4, 3) := by decide +kernel
theorem dX5_extend_17 : decode cX5_extend 17 = .ok (.iconst 0, 1) := by decide +kernel
theorem dX5_extend_18 : decode cX5_extend 18 = .ok (.istore 4, 2) := by decide +kernel
theorem dX5_extend_20 : decode cX5_extend 20 = .ok (.iconst 0, 1) := by decide +kernel
theorem dX5_extend_21 : decode cX5_extend 21 = .ok (.istore 5, 2) := by decide +kernel
theorem dX5_extend_23 : decode cX5_extend 23 = .ok (.iload 5, 2) := by decide +kernel
theorem dX5_extend_25 : decode cX5_extend 25 = .ok (.aload_n 1, 1) := by decide +kernel
theorem dX5_extend_26 : decode cX5_extend 26 = .ok (.invokevirtual 52, 3) := by decide +kernel
theorem dX5_extend_29 : decode cX5_extend 29 = .ok (.if_icmp .ge 103, 3) := by decide +kernel
theorem dX5_extend_32 : decode cX5_extend 32 = .ok (.aload_n 0, 1) := by decide +kernel
theorem dX5_extend_33 : decode cX5_extend 33 = .ok (.getfield 15, 3) := by decide +kernel
theorem dX5_extend_36 : decode cX5_extend 36 = .ok (.iload_n 2, 1) := by decide +kernel
theorem dX5_extend_37 : decode cX5_extend 37 = .ok (.aload_n 1, 1) := by decide +kernel
theorem dX5_extend_38 : decode cX5_extend 38 = .ok (.iload 5, 2) := by decide +kernel
theorem dX5_extend_40 : decode cX5_extend 40 = .ok (.invokevirtual 56, 3) := by decide +kernel
theorem dX5_extend_43 : decode cX5_extend 43 = .ok (.iastore, 1) := by decide +kernel
theorem dX5_extend_44 : decode cX5_extend 44 = .ok (.iload 4, 2) := by decide +kernel
theorem dX5_extend_46 : decode cX5_extend 46 = .ok (.ifCond .eq 18, 3) := by decide +kernel
theorem dX5_extend_49 : decode cX5_extend 49 = .ok (.aload_n 0, 1) := by decide +kernel
theorem dX5_extend_50 : decode cX5_extend 50 = .ok (.getfield 15, 3) := by decide +kernel
theorem dX5_extend_53 : decode cX5_extend 53 = .ok (.iload_n 2, 1) := by decide +kernel
theorem dX5_extend_54 : decode cX5_extend 54 = .ok (.iaload, 1) := by decide +kernel
theorem dX5_extend_55 : decode cX5_extend 55 = .ok (.invokestatic 60, 3) := by decide +kernel
theorem dX5_extend_58 : decode cX5_extend 58 = .ok (.ifCond .eq 6, 3) := by decide +kernel
theorem dX5_extend_61 : decode cX5_extend 61 = .ok (.goto 65, 3) := by decide +kernel
theorem dX5_extend_64 : decode cX5_extend 64 = .ok (.aload_n 1, 1) := by decide +kernel
theorem dX5_extend_65 : decode cX5_extend 65 = .ok (.aload_n 0, 1) := by decide +kernel
theorem dX5_extend_66 : decode cX5_extend 66 = .ok (.getfield 15, 3) := by decide +kernel
theorem dX5_extend_69 : decode cX5_extend 69 = .ok (.iload_n 2, 1) := by decide +kernel
theorem dX5_extend_70 : decode cX5_extend 70 = .ok (.iaload, 1) := by decide +kernel
theorem dX5_extend_71 : decode cX5_extend 71 = .ok (.aload_n 0, 1) := by decide +kernel
theorem dX5_extend_72 : decode cX5_extend 72 = .ok (.getfield 22, 3) := by decide +kernel
theorem dX5_extend_75 : decode cX5_extend 75 = .ok (.iload_n 2, 1) := by decide +kernel
theorem dX5_extend_76 : decode cX5_extend 76 = .ok (.aaload, 1) := by decide +kernel
theorem dX5_extend_77 : decode cX5_extend 77 = .ok (.aload_n 0, 1) := by decide +kernel
theorem dX5_extend_78 : decode cX5_extend 78 = .ok (.getfield 22, 3) := by decide +kernel
theorem dX5_extend_81 : decode cX5_extend 81 = .ok (.iload_n 2, 1) := by decide +kernel
theorem dX5_extend_82 : decode cX5_extend 82 = .ok (.iconst 1, 1) := by decide +kernel
theorem dX5_extend_83 : decode cX5_extend 83 = .ok (.iadd, 1) := by decide +kernel
theorem dX5_extend_84 : decode cX5_extend 84 = .ok (.aaload, 1) := by decide +kernel
theorem dX5_extend_85 : decode cX5_extend 85 = .ok (.invokevirtual 64, 3) := by decide +kernel
theorem dX5_extend_88 : decode cX5_extend 88 = .ok (.ifCond .ne 6, 3) := by decide +kernel
theorem dX5_extend_91 : decode cX5_extend 91 = .ok (.goto 35, 3) := by decide +kernel
theorem dX5_extend_94 : decode cX5_extend 94 = .ok (.iload 4, 2) := by decide +kernel
theorem dX5_extend_96 : decode cX5_extend 96 = .ok (.ifCond .eq 21, 3) := by decide +kernel
theorem dX5_extend_99 : decode cX5_extend 99 = .ok (.aload_n 0, 1) := by decide +kernel
theorem dX5_extend_100 : decode cX5_extend 100 = .ok (.aload_n 1, 1) := by decide +kernel
theorem dX5_extend_101 : decode cX5_extend 101 = .ok (.aload_n 0, 1) := by decide +kernel
theorem dX5_extend_102 : decode cX5_extend 102 = .ok (.getfield 22, 3) := by decide +kernel
theorem dX5_extend_105 : decode cX5_extend 105 = .ok (.iload_n 3, 1) := by decide +kernel
theorem dX5_extend_106 : decode cX5_extend 106 = .ok (.aaload, 1) := by decide +kernel
theorem dX5_extend_107 : decode cX5_extend 107 = .ok (.invokevirtual 34, 3) := by decide +kernel
theorem dX5_extend_110 : decode cX5_extend 110 = .ok (.iload_n 3, 1) := by decide +kernel
theorem dX5_extend_111 : decode cX5_extend 111 = .ok (.invokevirtual 68, 3) := by decide +kernel
theorem dX5_extend_114 : decode cX5_extend 114 = .ok (.goto 12, 3) := by decide +kernel
theorem dX5_extend_117 : decode cX5_extend 117 = .ok (.aload_n 0, 1) := by decide +kernel
theorem dX5_extend_118 : decode cX5_extend 118 = .ok (.aload_n 1, 1) := by decide +kernel
theorem dX5_extend_119 : decode cX5_extend 119 = .ok (.iload_n 2, 1) := by decide +kernel
theorem dX5_extend_120 : decode cX5_extend 120 = .ok (.iconst 1, 1) := by decide +kernel
theorem dX5_extend_121 : decode cX5_extend 121 = .ok (.iadd, 1) := by decide +kernel
theorem dX5_extend_122 : decode cX5_extend 122 = .ok (.iload_n 3, 1) := by decide +kernel
theorem dX5_extend_123 : decode cX5_extend 123 = .ok (.invokevirtual 48, 3) := by decide +kernel
theorem dX5_extend_126 : decode cX5_extend 126 = .ok (.iinc 5 1, 3) := by decide +kernel
theorem dX5_extend_129 : decode cX5_extend 129 = .ok (.goto (-106), 3) := by decide +kernel
theorem dX5_extend_132 : decode cX5_extend 132 = .ok (.return_, 1) := by decide +kernel
theorem dX5_isWaxOnly_0 : decode cX5_isWaxOnly 0 = .ok (.iload_n 0, 1) := by decide +kernel
theorem dX5_isWaxOnly_1 : decode cX5_isWaxOnly 1 = .ok (.bipush 10, 2) := by decide +kernel
theorem dX5_isWaxOnly_3 : decode cX5_isWaxOnly 3 = .ok (.if_icmp .lt 13, 3) := by decide +kernel
theorem dX5_isWaxOnly_6 : decode cX5_isWaxOnly 6 = .ok (.iload_n 0, 1) := by decide +kernel
theorem dX5_isWaxOnly_7 : decode cX5_isWaxOnly 7 = .ok (.bipush 20, 2) := by decide +kernel
theorem dX5_isWaxOnly_9 : decode cX5_isWaxOnly 9 = .ok (.if_icmp .gt 7, 3) := by decide +kernel
theorem dX5_isWaxOnly_12 : decode cX5_isWaxOnly 12 = .ok (.iconst 1, 1) := by decide +kernel
theorem dX5_isWaxOnly_13 : decode cX5_isWaxOnly 13 = .ok (.goto 4, 3) := by decide +kernel
theorem dX5_isWaxOnly_16 : decode cX5_isWaxOnly 16 = .ok (.iconst 0, 1) := by decide +kernel
theorem dX5_isWaxOnly_17 : decode cX5_isWaxOnly 17 = .ok (.ireturn, 1) := by decide +kernel
theorem dX5_judge_0 : decode cX5_judge 0 = .ok (.iload_n 1, 1) := by decide +kernel
theorem dX5_judge_1 : decode cX5_judge 1 = .ok (.aload_n 0, 1) := by decide +kernel
theorem dX5_judge_2 : decode cX5_judge 2 = .ok (.getfield 38, 3) := by decide +kernel
theorem dX5_judge_5 : decode cX5_judge 5 = .ok (.if_icmp .gt 4, 3) := by decide +kernel
theorem dX5_judge_8 : decode cX5_judge 8 = .ok (.return_, 1) := by decide +kernel
theorem dX5_judge_9 : decode cX5_judge 9 = .ok (.aload_n 0, 1) := by decide +kernel
theorem dX5_judge_10 : decode cX5_judge 10 = .ok (.iload_n 1, 1) := by decide +kernel
theorem dX5_judge_11 : decode cX5_judge 11 = .ok (.putfield 38, 3) := by decide +kernel
theorem dX5_judge_14 : decode cX5_judge 14 = .ok (.aload_n 0, 1) := by decide +kernel
theorem dX5_judge_15 : decode cX5_judge 15 = .ok (.iload_n 2, 1) := by decide +kernel
theorem dX5_judge_16 : decode cX5_judge 16 = .ok (.putfield 42, 3) := by decide +kernel
theorem dX5_judge_19 : decode cX5_judge 19 = .ok (.aload_n 0, 1) := by decide +kernel
theorem dX5_judge_20 : decode cX5_judge 20 = .ok (.getfield 15, 3) := by decide +kernel
theorem dX5_judge_23 : decode cX5_judge 23 = .ok (.iconst 0, 1) := by decide +kernel
theorem dX5_judge_24 : decode cX5_judge 24 = .ok (.aload_n 0, 1) := by decide +kernel
theorem dX5_judge_25 : decode cX5_judge 25 = .ok (.getfield 9, 3) := by decide +kernel
theorem dX5_judge_28 : decode cX5_judge 28 = .ok (.iconst 0, 1) := by decide +kernel
theorem dX5_judge_29 : decode cX5_judge 29 = .ok (.iload_n 2, 1) := by decide +kernel
theorem dX5_judge_30 : decode cX5_judge 30 = .ok (.invokestatic 28, 3) := by decide +kernel
theorem dX5_judge_33 : decode cX5_judge 33 = .ok (.return_, 1) := by decide +kernel
theorem dX6_init_0 : decode cX6_init 0 = .ok (.aload_n 0, 1) := by decide +kernel
theorem dX6_init_1 : decode cX6_init 1 = .ok (.invokespecial 1, 3) := by decide +kernel
theorem dX6_init_4 : decode cX6_init 4 = .ok (.aload_n 0, 1) := by decide +kernel
theorem dX6_init_5 : decode cX6_init 5 = .ok (.new 7, 3) := by decide +kernel
theorem dX6_init_8 : decode cX6_init 8 = .ok (.dup, 1) := by decide +kernel
theorem dX6_init_9 : decode cX6_init 9 = .ok (.invokespecial 9, 3) := by decide +kernel
theorem dX6_init_12 : decode cX6_init 12 = .ok (.putfield 10, 3) := by decide +kernel
theorem dX6_init_15 : decode cX6_init 15 = .ok (.aload_n 0, 1) := by decide +kernel
theorem dX6_init_16 : decode cX6_init 16 = .ok (.aload_n 1, 1) := by decide +kernel
theorem dX6_init_17 : decode cX6_init 17 = .ok (.putfield 16, 3) := by decide +kernel
theorem dX6_init_20 : decode cX6_init 20 = .ok (.return_, 1) := by decide +kernel
theorem dX6_read_0 : decode cX6_read 0 = .ok (.aload_n 0, 1) := by decide +kernel
theorem dX6_read_1 : decode cX6_read 1 = .ok (.iconst 0, 1) := by decide +kernel
theorem dX6_read_2 : decode cX6_read 2 = .ok (.putfield 20, 3) := by decide +kernel
theorem dX6_read_5 : decode cX6_read 5 = .ok (.aload_n 0, 1) := by decide +kernel
theorem dX6_read_6 : decode cX6_read 6 = .ok (.bipush 119, 2) := by decide +kernel
theorem dX6_read_8 : decode cX6_read 8 = .ok (.invokevirtual 24, 3) := by decide +kernel
theorem dX6_read_11 : decode cX6_read 11 = .ok (.ifCond .eq 28, 3) := by decide +kernel
theorem dX6_read_14 : decode cX6_read 14 = .ok (.aload_n 0, 1) := by decide +kernel
theorem dX6_read_15 : decode cX6_read 15 = .ok (.invokevirtual 28, 3) := by decide +kernel
theorem dX6_read_18 : decode cX6_read 18 = .ok (.ifCond .eq 21, 3) := by decide +kernel
theorem dX6_read_21 : decode cX6_read 21 = .ok (.aload_n 0, 1) := by decide +kernel
theorem dX6_read_22 : decode cX6_read 22 = .ok (.invokevirtual 32, 3) := by decide +kernel
theorem dX6_read_25 : decode cX6_read 25 = .ok (.ifCond .eq 14, 3) := by decide +kernel
theorem dX6_read_28 : decode cX6_read 28 = .ok (.aload_n 0, 1) := by decide +kernel
theorem dX6_read_29 : decode cX6_read 29 = .ok (.invokevirtual 35, 3) := by decide +kernel
theorem dX6_read_32 : decode cX6_read 32 = .ok (.ifCond .eq 7, 3) := by decide +kernel
theorem dX6_read_35 : decode cX6_read 35 = .ok (.iconst 1, 1) := by decide +kernel
theorem dX6_read_36 : decode cX6_read 36 = .ok (.goto 4, 3) := by decide +kernel
theorem dX6_read_39 : decode cX6_read 39 = .ok (.iconst 0, 1) := by decide +kernel
theorem dX6_read_40 : decode cX6_read 40 = .ok (.ireturn, 1) := by decide +kernel
theorem dX6_sign_0 : decode cX6_sign 0 = .ok (.aload_n 0, 1) := by decide +kernel
theorem dX6_sign_1 : decode cX6_sign 1 = .ok (.getfield 16, 3) := by decide +kernel
theorem dX6_sign_4 : decode cX6_sign 4 = .ok (.aload_n 0, 1) := by decide +kernel
theorem dX6_sign_5 : decode cX6_sign 5 = .ok (.getfield 20, 3) := by decide +kernel
theorem dX6_sign_8 : decode cX6_sign 8 = .ok (.invokevirtual 38, 3) := by decide +kernel
theorem dX6_sign_11 : decode cX6_sign 11 = .ok (.iload_n 1, 1) := by decide +kernel
theorem dX6_sign_12 : decode cX6_sign 12 = .ok (.if_icmp .eq 5, 3) := by decide +kernel
theorem dX6_sign_15 : decode cX6_sign 15 = .ok (.iconst 0, 1) := by decide +kernel
theorem dX6_sign_16 : decode cX6_sign 16 = .ok (.ireturn, 1) := by decide +kernel
theorem dX6_sign_17 : decode cX6_sign 17 = .ok (.aload_n 0, 1) := by decide +kernel
theorem dX6_sign_18 : decode cX6_sign 18 = .ok (.dup, 1) := by decide +kernel
theorem dX6_sign_19 : decode cX6_sign 19 = .ok (.getfield 20, 3) := by decide +kernel
theorem dX6_sign_22 : decode cX6_sign 22 = .ok (.iconst 1, 1) := by decide +kernel
theorem dX6_sign_23 : decode cX6_sign 23 = .ok (.iadd, 1) := by decide +kernel
theorem dX6_sign_24 : decode cX6_sign 24 = .ok (.putfield 20, 3) := by decide +kernel
theorem dX6_sign_27 : decode cX6_sign 27 = .ok (.iconst 1, 1) := by decide +kernel
theorem dX6_sign_28 : decode cX6_sign 28 = .ok (.ireturn, 1) := by decide +kernel
theorem dX6_figure_0 : decode cX6_figure 0 = .ok (.aload_n 0, 1) := by decide +kernel
theorem dX6_figure_1 : decode cX6_figure 1 = .ok (.getfield 16, 3) := by decide +kernel
theorem dX6_figure_4 : decode cX6_figure 4 = .ok (.aload_n 0, 1) := by decide +kernel
theorem dX6_figure_5 : decode cX6_figure 5 = .ok (.getfield 20, 3) := by decide +kernel
theorem dX6_figure_8 : decode cX6_figure 8 = .ok (.invokevirtual 38, 3) := by decide +kernel
theorem dX6_figure_11 : decode cX6_figure 11 = .ok (.bipush 48, 2) := by decide +kernel
theorem dX6_figure_13 : decode cX6_figure 13 = .ok (.isub, 1) := by decide +kernel
theorem dX6_figure_14 : decode cX6_figure 14 = .ok (.istore_n 3, 1) := by decide +kernel
theorem dX6_figure_15 : decode cX6_figure 15 = .ok (.iload_n 3, 1) := by decide +kernel
theorem dX6_figure_16 : decode cX6_figure 16 = .ok (.iload_n 1, 1) := by decide +kernel
theorem dX6_figure_17 : decode cX6_figure 17 = .ok (.if_icmp .lt 8, 3) := by decide +kernel
theorem dX6_figure_20 : decode cX6_figure 20 = .ok (.iload_n 3, 1) := by decide +kernel
theorem dX6_figure_21 : decode cX6_figure 21 = .ok (.iload_n 2, 1) := by decide +kernel
theorem dX6_figure_22 : decode cX6_figure 22 = .ok (.if_icmp .le 5, 3) := by decide +kernel
theorem dX6_figure_25 : decode cX6_figure 25 = .ok (.iconst (-1), 1) := by decide +kernel
theorem dX6_figure_26 : decode cX6_figure 26 = .ok (.ireturn, 1) := by decide +kernel
theorem dX6_figure_27 : decode cX6_figure 27 = .ok (.aload_n 0, 1) := by decide +kernel
theorem dX6_figure_28 : decode cX6_figure 28 = .ok (.dup, 1) := by decide +kernel
theorem dX6_figure_29 : decode cX6_figure 29 = .ok (.getfield 20, 3) := by decide +kernel
theorem dX6_figure_32 : decode cX6_figure 32 = .ok (.iconst 1, 1) := by decide +kernel
theorem dX6_figure_33 : decode cX6_figure 33 = .ok (.iadd, 1) := by decide +kernel
theorem dX6_figure_34 : decode cX6_figure 34 = .ok (.putfield 20, 3) := by decide +kernel
theorem dX6_figure_37 : decode cX6_figure 37 = .ok (.iload_n 3, 1) := by decide +kernel
theorem dX6_figure_38 : decode cX6_figure 38 = .ok (.ireturn, 1) := by decide +kernel
theorem dX6_readSquares_0 : decode cX6_readSquares 0 = .ok (.iconst 0, 1) := by decide +kernel
theorem dX6_readSquares_1 : decode cX6_readSquares 1 = .ok (.istore_n 1, 1) := by decide +kernel
theorem dX6_readSquares_2 : decode cX6_readSquares 2 = .ok (.iload_n 1, 1) := by decide +kernel
theorem dX6_readSquares_3 : decode cX6_readSquares 3 = .ok (.bipush 8, 2) := by decide +kernel
theorem dX6_readSquares_5 : decode cX6_readSquares 5 = .ok (.if_icmp .ge 49, 3) := by decide +kernel
theorem dX6_readSquares_8 : decode cX6_readSquares 8 = .ok (.aload_n 0, 1) := by decide +kernel
theorem dX6_readSquares_9 : decode cX6_readSquares 9 = .ok (.iload_n 1, 1) := by decide +kernel
theorem dX6_readSquares_10 : decode cX6_readSquares 10 = .ok (.invokevirtual 44, 3) := by decide +kernel
theorem dX6_readSquares_13 : decode cX6_readSquares 13 = .ok (.ifCond .ne 5, 3) := by decide +kernel
theorem dX6_readSquares_16 : decode cX6_readSquares 16 = .ok (.iconst 0, 1) := by decide +kernel
theorem dX6_readSquares_17 : decode cX6_readSquares 17 = .ok (.ireturn, 1) := by decide +kernel
theorem dX6_readSquares_18 : decode cX6_readSquares 18 = .ok (.aload_n 0, 1) := by decide +kernel
theorem dX6_readSquares_19 : decode cX6_readSquares 19 = .ok (.getfield 10, 3) := by decide +kernel
theorem dX6_readSquares_22 : decode cX6_readSquares 22 = .ok (.iload_n 1, 1) := by decide +kernel
theorem dX6_readSquares_23 : decode cX6_readSquares 23 = .ok (.iconst 1, 1) := by decide +kernel
theorem dX6_readSquares_24 : decode cX6_readSquares 24 = .ok (.iadd, 1) := by decide +kernel
theorem dX6_readSquares_25 : decode cX6_readSquares 25 = .ok (.putfield 47, 3) := by decide +kernel
theorem dX6_readSquares_28 : decode cX6_readSquares 28 = .ok (.iload_n 1, 1) := by decide +kernel
theorem dX6_readSquares_29 : decode cX6_readSquares 29 = .ok (.iconst 1, 1) := by decide +kernel
theorem dX6_readSquares_30 : decode cX6_readSquares 30 = .ok (.iadd, 1) := by decide +kernel
theorem dX6_readSquares_31 : decode cX6_readSquares 31 = .ok (.bipush 8, 2) := by decide +kernel
theorem dX6_readSquares_33 : decode cX6_readSquares 33 = .ok (.if_icmp .eq 21, 3) := by decide +kernel
theorem dX6_readSquares_36 : decode cX6_readSquares 36 = .ok (.aload_n 0, 1) := by decide +kernel
theorem dX6_readSquares_37 : decode cX6_readSquares 37 = .ok (.bipush 44, 2) := by decide +kernel
theorem dX6_readSquares_39 : decode cX6_readSquares 39 = .ok (.invokevirtual 24, 3) := by decide +kernel
theorem dX6_readSquares_42 : decode cX6_readSquares 42 = .ok (.ifCond .ne 6, 3) := by decide +kernel
theorem dX6_readSquares_45 : decode cX6_readSquares 45 = .ok (.goto 9, 3) := by decide +kernel
theorem dX6_readSquares_48 : decode cX6_readSquares 48 = .ok (.iinc 1 1, 3) := by decide +kernel
theorem dX6_readSquares_51 : decode cX6_readSquares 51 = .ok (.goto (-49), 3) := by decide +kernel
theorem dX6_readSquares_54 : decode cX6_readSquares 54 = .ok (.aload_n 0, 1) := by decide +kernel
theorem dX6_readSquares_55 : decode cX6_readSquares 55 = .ok (.bipush 59, 2) := by decide +kernel
theorem dX6_readSquares_57 : decode cX6_readSquares 57 = .ok (.invokevirtual 24, 3) := by decide +kernel
theorem dX6_readSquares_60 : decode cX6_readSquares 60 = .ok (.ireturn, 1) := by decide +kernel
theorem dX6_readSquare_0 : decode cX6_readSquare 0 = .ok (.aload_n 0, 1) := by decide +kernel
theorem dX6_readSquare_1 : decode cX6_readSquare 1 = .ok (.getfield 16, 3) := by decide +kernel
theorem dX6_readSquare_4 : decode cX6_readSquare 4 = .ok (.aload_n 0, 1) := by decide +kernel
theorem dX6_readSquare_5 : decode cX6_readSquare 5 = .ok (.getfield 20, 3) := by decide +kernel
theorem dX6_readSquare_8 : decode cX6_readSquare 8 = .ok (.invokevirtual 38, 3) := by decide +kernel
theorem dX6_readSquare_11 : decode cX6_readSquare 11 = .ok (.invokestatic 50, 3) := by decide +kernel
theorem dX6_readSquare_14 : decode cX6_readSquare 14 = .ok (.istore_n 2, 1) := by decide +kernel
theorem dX6_readSquare_15 : decode cX6_readSquare 15 = .ok (.iload_n 2, 1) := by decide +kernel
theorem dX6_readSquare_16 : decode cX6_readSquare 16 = .ok (.ifCond .ne 5, 3) := by decide +kernel
theorem dX6_readSquare_19 : decode cX6_readSquare 19 = .ok (.iconst 0, 1) := by decide +kernel
theorem dX6_readSquare_20 : decode cX6_readSquare 20 = .ok (.ireturn, 1) := by decide +kernel
theorem dX6_readSquare_21 : decode cX6_readSquare 21 = .ok (.aload_n 0, 1) := by decide +kernel
theorem dX6_readSquare_22 : decode cX6_readSquare 22 = .ok (.dup, 1) := by decide +kernel
theorem dX6_readSquare_23 : decode cX6_readSquare 23 = .ok (.getfield 20, 3) := by decide +kernel
theorem dX6_readSquare_26 : decode cX6_readSquare 26 = .ok (.iconst 1, 1) := by decide +kernel
theorem dX6_readSquare_27 : decode cX6_readSquare 27 = .ok (.iadd, 1) := by decide +kernel
theorem dX6_readSquare_28 : decode cX6_readSquare 28 = .ok (.putfield 20, 3) := by decide +kernel
theorem dX6_readSquare_31 : decode cX6_readSquare 31 = .ok (.aload_n 0, 1) := by decide +kernel
theorem dX6_readSquare_32 : decode cX6_readSquare 32 = .ok (.iconst 0, 1) := by decide +kernel
theorem dX6_readSquare_33 : decode cX6_readSquare 33 = .ok (.bipush 7, 2) := by decide +kernel
theorem dX6_readSquare_35 : decode cX6_readSquare 35 = .ok (.invokevirtual 57, 3) := by decide +kernel
theorem dX6_readSquare_38 : decode cX6_readSquare 38 = .ok (.istore_n 3, 1) := by decide +kernel
theorem dX6_readSquare_39 : decode cX6_readSquare 39 = .ok (.iload_n 3, 1) := by decide +kernel
theorem dX6_readSquare_40 : decode cX6_readSquare 40 = .ok (.iconst (-1), 1) := by decide +kernel
theorem dX6_readSquare_41 : decode cX6_readSquare 41 = .ok (.if_icmp .ne 5, 3) := by decide +kernel
theorem dX6_readSquare_44 : decode cX6_readSquare 44 = .ok (.iconst 0, 1) := by decide +kernel
theorem dX6_readSquare_45 : decode cX6_readSquare 45 = .ok (.ireturn, 1) := by decide +kernel
theorem dX6_readSquare_46 : decode cX6_readSquare 46 = .ok (.aload_n 0, 1) := by decide +kernel
theorem dX6_readSquare_47 : decode cX6_readSquare 47 = .ok (.getfield 10, 3) := by decide +kernel
theorem dX6_readSquare_50 : decode cX6_readSquare 50 = .ok (.getfield 61, 3) := by decide +kernel
theorem dX6_readSquare_53 : decode cX6_readSquare 53 = .ok (.iload_n 1, 1) := by decide +kernel
theorem dX6_readSquare_54 : decode cX6_readSquare 54 = .ok (.iload_n 2, 1) := by decide +kernel
theorem dX6_readSquare_55 : decode cX6_readSquare 55 = .ok (.iastore, 1) := by decide +kernel
theorem dX6_readSquare_56 : decode cX6_readSquare 56 = .ok (.aload_n 0, 1) := by decide +kernel
theorem dX6_readSquare_57 : decode cX6_readSquare 57 = .ok (.getfield 10, 3) := by decide +kernel
theorem dX6_readSquare_60 : decode cX6_readSquare 60 = .ok (.getfield 65, 3) := by decide +kernel
theorem dX6_readSquare_63 : decode cX6_readSquare 63 = .ok (.iload_n 1, 1) := by decide +kernel
theorem dX6_readSquare_64 : decode cX6_readSquare 64 = .ok (.iload_n 3, 1) := by decide +kernel
theorem dX6_readSquare_65 : decode cX6_readSquare 65 = .ok (.iastore, 1) := by decide +kernel
theorem dX6_readSquare_66 : decode cX6_readSquare 66 = .ok (.iconst 1, 1) := by decide +kernel
theorem dX6_readSquare_67 : decode cX6_readSquare 67 = .ok (.ireturn, 1) := by decide +kernel
theorem dX6_readDyes_0 : decode cX6_readDyes 0 = .ok (.iconst 0, 1) := by decide +kernel
theorem dX6_readDyes_1 : decode cX6_readDyes 1 = .ok (.istore_n 1, 1) := by decide +kernel
theorem dX6_readDyes_2 : decode cX6_readDyes 2 = .ok (.iload_n 1, 1) := by decide +kernel
theorem dX6_readDyes_3 : decode cX6_readDyes 3 = .ok (.iconst 4, 1) := by decide +kernel
theorem dX6_readDyes_4 : decode cX6_readDyes 4 = .ok (.if_icmp .ge 48, 3) := by decide +kernel
theorem dX6_readDyes_7 : decode cX6_readDyes 7 = .ok (.aload_n 0, 1) := by decide +kernel
theorem dX6_readDyes_8 : decode cX6_readDyes 8 = .ok (.iload_n 1, 1) := by decide +kernel
theorem dX6_readDyes_9 : decode cX6_readDyes 9 = .ok (.invokevirtual 68, 3) := by decide +kernel
theorem dX6_readDyes_12 : decode cX6_readDyes 12 = .ok (.ifCond .ne 5, 3) := by decide +kernel
theorem dX6_readDyes_15 : decode cX6_readDyes 15 = .ok (.iconst 0, 1) := by decide +kernel
theorem dX6_readDyes_16 : decode cX6_readDyes 16 = .ok (.ireturn, 1) := by decide +kernel
theorem dX6_readDyes_17 : decode cX6_readDyes 17 = .ok (.aload_n 0, 1) := by decide +kernel
theorem dX6_readDyes_18 : decode cX6_readDyes 18 = .ok (.getfield 10, 3) := by decide +kernel
theorem dX6_readDyes_21 : decode cX6_readDyes 21 = .ok (.iload_n 1, 1) := by decide +kernel
theorem dX6_readDyes_22 : decode cX6_readDyes 22 = .ok (.iconst 1, 1) := by decide +kernel
theorem dX6_readDyes_23 : decode cX6_readDyes 23 = .ok (.iadd, 1) := by decide +kernel
theorem dX6_readDyes_24 : decode cX6_readDyes 24 = .ok (.putfield 71, 3) := by decide +kernel
theorem dX6_readDyes_27 : decode cX6_readDyes 27 = .ok (.iload_n 1, 1) := by decide +kernel
theorem dX6_readDyes_28 : decode cX6_readDyes 28 = .ok (.iconst 1, 1) := by decide +kernel
theorem dX6_readDyes_29 : decode cX6_readDyes 29 = .ok (.iadd, 1) := by decide +kernel
theorem dX6_readDyes_30 : decode cX6_readDyes 30 = .ok (.iconst 4, 1) := by decide +kernel
theorem dX6_readDyes_31 : decode cX6_readDyes 31 = .ok (.if_icmp .eq 21, 3) := by decide +kernel
theorem dX6_readDyes_34 : decode cX6_readDyes 34 = .ok (.aload_n 0, 1) := by decide +kernel
theorem dX6_readDyes_35 : decode cX6_readDyes 35 = .ok (.bipush 44, 2) := by decide +kernel
theorem dX6_readDyes_37 : decode cX6_readDyes 37 = .ok (.invokevirtual 24, 3) := by decide +kernel
theorem dX6_readDyes_40 : decode cX6_readDyes 40 = .ok (.ifCond .ne 6, 3) := by decide +kernel
theorem dX6_readDyes_43 : decode cX6_readDyes 43 = .ok (.goto 9, 3) := by decide +kernel
theorem dX6_readDyes_46 : decode cX6_readDyes 46 = .ok (.iinc 1 1, 3) := by decide +kernel
theorem dX6_readDyes_49 : decode cX6_readDyes 49 = .ok (.goto (-47), 3) := by decide +kernel
theorem dX6_readDyes_52 : decode cX6_readDyes 52 = .ok (.aload_n 0, 1) := by decide +kernel
theorem dX6_readDyes_53 : decode cX6_readDyes 53 = .ok (.bipush 59, 2) := by decide +kernel
theorem dX6_readDyes_55 : decode cX6_readDyes 55 = .ok (.invokevirtual 24, 3) := by decide +kernel
theorem dX6_readDyes_58 : decode cX6_readDyes 58 = .ok (.ireturn, 1) := by decide +kernel
theorem dX6_readDye_0 : decode cX6_readDye 0 = .ok (.iconst 0, 1) := by decide +kernel
theorem dX6_readDye_1 : decode cX6_readDye 1 = .ok (.istore_n 2, 1) := by decide +kernel
theorem dX6_readDye_2 : decode cX6_readDye 2 = .ok (.iload_n 2, 1) := by decide +kernel
theorem dX6_readDye_3 : decode cX6_readDye 3 = .ok (.iconst 3, 1) := by decide +kernel
theorem dX6_readDye_4 : decode cX6_readDye 4 = .ok (.if_icmp .ge 37, 3) := by decide +kernel
theorem dX6_readDye_7 : decode cX6_readDye 7 = .ok (.aload_n 0, 1) := by decide +kernel
theorem dX6_readDye_8 : decode cX6_readDye 8 = .ok (.iconst 0, 1) := by decide +kernel
theorem dX6_readDye_9 : decode cX6_readDye 9 = .ok (.iconst 3, 1) := by decide +kernel
theorem dX6_readDye_10 : decode cX6_readDye 10 = .ok (.invokevirtual 57, 3) := by decide +kernel
theorem dX6_readDye_13 : decode cX6_readDye 13 = .ok (.istore_n 3, 1) := by decide +kernel
theorem dX6_readDye_14 : decode cX6_readDye 14 = .ok (.iload_n 3, 1) := by decide +kernel
theorem dX6_readDye_15 : decode cX6_readDye 15 = .ok (.iconst (-1), 1) := by decide +kernel
theorem dX6_readDye_16 : decode cX6_readDye 16 = .ok (.if_icmp .ne 5, 3) := by decide +kernel
theorem dX6_readDye_19 : decode cX6_readDye 19 = .ok (.iconst 0, 1) := by decide +kernel
theorem dX6_readDye_20 : decode cX6_readDye 20 = .ok (.ireturn, 1) := by decide +kernel
theorem dX6_readDye_21 : decode cX6_readDye 21 = .ok (.aload_n 0, 1) := by decide +kernel
theorem dX6_readDye_22 : decode cX6_readDye 22 = .ok (.getfield 10, 3) := by decide +kernel
theorem dX6_readDye_25 : decode cX6_readDye 25 = .ok (.getfield 74, 3) := by decide +kernel
theorem dX6_readDye_28 : decode cX6_readDye 28 = .ok (.iload_n 1, 1) := by decide +kernel
theorem dX6_readDye_29 : decode cX6_readDye 29 = .ok (.iconst 3, 1) := by decide +kernel
theorem dX6_readDye_30 : decode cX6_readDye 30 = .ok (.imul, 1) := by decide +kernel
theorem dX6_readDye_31 : decode cX6_readDye 31 = .ok (.iload_n 2, 1) := by decide +kernel
theorem dX6_readDye_32 : decode cX6_readDye 32 = .ok (.iadd, 1) := by decide +kernel
theorem dX6_readDye_33 : decode cX6_readDye 33 = .ok (.iload_n 3, 1) := by decide +kernel
theorem dX6_readDye_34 : decode cX6_readDye 34 = .ok (.iastore, 1) := by decide +kernel
theorem dX6_readDye_35 : decode cX6_readDye 35 = .ok (.iinc 2 1, 3) := by decide +kernel
theorem dX6_readDye_38 : decode cX6_readDye 38 = .ok (.goto (-36), 3) := by decide +kernel
theorem dX6_readDye_41 : decode cX6_readDye 41 = .ok (.iconst 1, 1) := by decide +kernel
theorem dX6_readDye_42 : decode cX6_readDye 42 = .ok (.ireturn, 1) := by decide +kernel
theorem dX6_readStencils_0 : decode cX6_readStencils 0 = .ok (.iconst 0, 1) := by decide +kernel
theorem dX6_readStencils_1 : decode cX6_readStencils 1 = .ok (.istore_n 1, 1) := by decide +kernel
theorem dX6_readStencils_2 : decode cX6_readStencils 2 = .ok (.iload_n 1, 1) := by decide +kernel
theorem dX6_readStencils_3 : decode cX6_readStencils 3 = .ok (.iconst 3, 1) := by decide +kernel
theorem dX6_readStencils_4 : decode cX6_readStencils 4 = .ok (.if_icmp .ge 59, 3) := by decide +kernel
theorem dX6_readStencils_7 : decode cX6_readStencils 7 = .ok (.aload_n 0, 1) := by decide +kernel
theorem dX6_readStencils_8 : decode cX6_readStencils 8 = .ok (.invokevirtual 77, 3) := by decide +kernel
theorem dX6_readStencils_11 : decode cX6_readStencils 11 = .ok (.istore_n 2, 1) := by decide +kernel
theorem dX6_readStencils_12 : decode cX6_readStencils 12 = .ok (.iload_n 2, 1) := by decide +kernel
theorem dX6_readStencils_13 : decode cX6_readStencils 13 = .ok (.ifCond .ne 5, 3) := by decide +kernel
theorem dX6_readStencils_16 : decode cX6_readStencils 16 = .ok (.iconst 0, 1) := by decide +kernel
theorem dX6_readStencils_17 : decode cX6_readStencils 17 = .ok (.ireturn, 1) := by decide +kernel
theorem dX6_readStencils_18 : decode cX6_readStencils 18 = .ok (.aload_n 0, 1) := by decide +kernel
theorem dX6_readStencils_19 : decode cX6_readStencils 19 = .ok (.getfield 10, 3) := by decide +kernel
theorem dX6_readStencils_22 : decode cX6_readStencils 22 = .ok (.getfield 81, 3) := by decide +kernel
theorem dX6_readStencils_25 : decode cX6_readStencils 25 = .ok (.iload_n 1, 1) := by decide +kernel
theorem dX6_readStencils_26 : decode cX6_readStencils 26 = .ok (.iload_n 2, 1) := by decide +kernel
theorem dX6_readStencils_27 : decode cX6_readStencils 27 = .ok (.iastore, 1) := by decide +kernel
theorem dX6_readStencils_28 : decode cX6_readStencils 28 = .ok (.aload_n 0, 1) := by decide +kernel
theorem dX6_readStencils_29 : decode cX6_readStencils 29 = .ok (.getfield 10, 3) := by decide +kernel
theorem dX6_readStencils_32 : decode cX6_readStencils 32 = .ok (.iload_n 1, 1) := by decide +kernel
theorem dX6_readStencils_33 : decode cX6_readStencils 33 = .ok (.iconst 1, 1) := by decide +kernel
theorem dX6_readStencils_34 : decode cX6_readStencils 34 = .ok (.iadd, 1) := by decide +kernel
theorem dX6_readStencils_35 : decode cX6_readStencils 35 = .ok (.putfield 84, 3) := by decide +kernel
theorem dX6_readStencils_38 : decode cX6_readStencils 38 = .ok (.iload_n 1, 1) := by decide +kernel
theorem dX6_readStencils_39 : decode cX6_readStencils 39 = .ok (.iconst 1, 1) := by decide +kernel
theorem dX6_readStencils_40 : decode cX6_readStencils 40 = .ok (.iadd, 1) := by decide +kernel
theorem dX6_readStencils_41 : decode cX6_readStencils 41 = .ok (.iconst 3, 1) := by decide +kernel
theorem dX6_readStencils_42 : decode cX6_readStencils 42 = .ok (.if_icmp .eq 21, 3) := by decide +kernel
theorem dX6_readStencils_45 : decode cX6_readStencils 45 = .ok (.aload_n 0, 1) := by decide +kernel
theorem dX6_readStencils_46 : decode cX6_readStencils 46 = .ok (.bipush 44, 2) := by decide +kernel
theorem dX6_readStencils_48 : decode cX6_readStencils 48 = .ok (.invokevirtual 24, 3) := by decide +kernel
theorem dX6_readStencils_51 : decode cX6_readStencils 51 = .ok (.ifCond .ne 6, 3) := by decide +kernel
theorem dX6_readStencils_54 : decode cX6_readStencils 54 = .ok (.goto 9, 3) := by decide +kernel
theorem dX6_readStencils_57 : decode cX6_readStencils 57 = .ok (.iinc 1 1, 3) := by decide +kernel
theorem dX6_readStencils_60 : decode cX6_readStencils 60 = .ok (.goto (-58), 3) := by decide +kernel
theorem dX6_readStencils_63 : decode cX6_readStencils 63 = .ok (.aload_n 0, 1) := by decide +kernel
theorem dX6_readStencils_64 : decode cX6_readStencils 64 = .ok (.getfield 16, 3) := by decide +kernel
theorem dX6_readStencils_67 : decode cX6_readStencils 67 = .ok (.aload_n 0, 1) := by decide +kernel
theorem dX6_readStencils_68 : decode cX6_readStencils 68 = .ok (.getfield 20, 3) := by decide +kernel
theorem dX6_readStencils_71 : decode cX6_readStencils 71 = .ok (.invokevirtual 38, 3) := by decide +kernel
theorem dX6_readStencils_74 : decode cX6_readStencils 74 = .ok (.iconst (-1), 1) := by decide +kernel
theorem dX6_readStencils_75 : decode cX6_readStencils 75 = .ok (.if_icmp .ne 7, 3) := by decide +kernel
theorem dX6_readStencils_78 : decode cX6_readStencils 78 = .ok (.iconst 1, 1) := by decide +kernel
theorem dX6_readStencils_79 : decode cX6_readStencils 79 = .ok (.goto 4, 3) := by decide +kernel
theorem dX6_readStencils_82 : decode cX6_readStencils 82 = .ok (.iconst 0, 1) := by decide +kernel
theorem dX6_readStencils_83 : decode cX6_readStencils 83 = .ok (.ireturn, 1) := by decide +kernel
theorem dX6_readStencil_0 : decode cX6_readStencil 0 = .ok (.iconst 0, 1) := by decide +kernel
theorem dX6_readStencil_1 : decode cX6_readStencil 1 = .ok (.istore_n 1, 1) := by decide +kernel
theorem dX6_readStencil_2 : decode cX6_readStencil 2 = .ok (.iconst 0, 1) := by decide +kernel
theorem dX6_readStencil_3 : decode cX6_readStencil 3 = .ok (.istore_n 2, 1) := by decide +kernel
theorem dX6_readStencil_4 : decode cX6_readStencil 4 = .ok (.iconst 0, 1) := by decide +kernel
theorem dX6_readStencil_5 : decode cX6_readStencil 5 = .ok (.istore_n 3, 1) := by decide +kernel
theorem dX6_readStencil_6 : decode cX6_readStencil 6 = .ok (.iload_n 3, 1) := by decide +kernel
theorem dX6_readStencil_7 : decode cX6_readStencil 7 = .ok (.bipush 8, 2) := by decide +kernel
theorem dX6_readStencil_9 : decode cX6_readStencil 9 = .ok (.if_icmp .ge 46, 3) := by decide +kernel
theorem dX6_readStencil_12 : decode cX6_readStencil 12 = .ok (.aload_n 0, 1) := by decide +kernel
theorem dX6_readStencil_13 : decode cX6_readStencil 13 = .ok (.iload_n 2, 1) := by decide +kernel
theorem dX6_readStencil_14 : decode cX6_readStencil 14 = .ok (.aload_n 0, 1) := by decide +kernel
theorem dX6_readStencil_15 : decode cX6_readStencil 15 = .ok (.getfield 10, 3) := by decide +kernel
theorem dX6_readStencil_18 : decode cX6_readStencil 18 = .ok (.getfield 47, 3) := by decide +kernel
theorem dX6_readStencil_21 : decode cX6_readStencil 21 = .ok (.iconst 1, 1) := by decide +kernel
theorem dX6_readStencil_22 : decode cX6_readStencil 22 = .ok (.isub, 1) := by decide +kernel
theorem dX6_readStencil_23 : decode cX6_readStencil 23 = .ok (.invokevirtual 57, 3) := by decide +kernel
theorem dX6_readStencil_26 : decode cX6_readStencil 26 = .ok (.istore 4, 2) := by decide +kernel
theorem dX6_readStencil_28 : decode cX6_readStencil 28 = .ok (.iload 4, 2) := by decide +kernel
theorem dX6_readStencil_30 : decode cX6_readStencil 30 = .ok (.iconst (-1), 1) := by decide +kernel
theorem dX6_readStencil_31 : decode cX6_readStencil 31 = .ok (.if_icmp .ne 6, 3) := by decide +kernel
theorem dX6_readStencil_34 : decode cX6_readStencil 34 = .ok (.goto 21, 3) := by decide +kernel
theorem dX6_readStencil_37 : decode cX6_readStencil 37 = .ok (.iload_n 1, 1) := by decide +kernel
theorem dX6_readStencil_38 : decode cX6_readStencil 38 = .ok (.iconst 1, 1) := by decide +kernel
theorem dX6_readStencil_39 : decode cX6_readStencil 39 = .ok (.iload 4, 2) := by decide +kernel
theorem dX6_readStencil_41 : decode cX6_readStencil 41 = .ok (.ishl, 1) := by decide +kernel
theorem dX6_readStencil_42 : decode cX6_readStencil 42 = .ok (.ior, 1) := by decide +kernel
theorem dX6_readStencil_43 : decode cX6_readStencil 43 = .ok (.istore_n 1, 1) := by decide +kernel
theorem dX6_readStencil_44 : decode cX6_readStencil 44 = .ok (.iload 4, 2) := by decide +kernel
theorem dX6_readStencil_46 : decode cX6_readStencil 46 = .ok (.iconst 1, 1) := by decide +kernel
theorem dX6_readStencil_47 : decode cX6_readStencil 47 = .ok (.iadd, 1) := by decide +kernel
theorem dX6_readStencil_48 : decode cX6_readStencil 48 = .ok (.istore_n 2, 1) := by decide +kernel
theorem dX6_readStencil_49 : decode cX6_readStencil 49 = .ok (.iinc 3 1, 3) := by decide +kernel
theorem dX6_readStencil_52 : decode cX6_readStencil 52 = .ok (.goto (-46), 3) := by decide +kernel
theorem dX6_readStencil_55 : decode cX6_readStencil 55 = .ok (.iload_n 1, 1) := by decide +kernel
theorem dX6_readStencil_56 : decode cX6_readStencil 56 = .ok (.ireturn, 1) := by decide +kernel
theorem dX7_init_0 : decode cX7_init 0 = .ok (.aload_n 0, 1) := by decide +kernel
theorem dX7_init_1 : decode cX7_init 1 = .ok (.invokespecial 1, 3) := by decide +kernel
theorem dX7_init_4 : decode cX7_init 4 = .ok (.return_, 1) := by decide +kernel
theorem dX7_measure_0 : decode cX7_measure 0 = .ok (.aload_n 0, 1) := by decide +kernel
theorem dX7_measure_1 : decode cX7_measure 1 = .ok (.iconst 0, 1) := by decide +kernel
theorem dX7_measure_2 : decode cX7_measure 2 = .ok (.putfield 7, 3) := by decide +kernel
theorem dX7_measure_5 : decode cX7_measure 5 = .ok (.aload_n 0, 1) := by decide +kernel
theorem dX7_measure_6 : decode cX7_measure 6 = .ok (.iconst 1, 1) := by decide +kernel
theorem dX7_measure_7 : decode cX7_measure 7 = .ok (.putfield 13, 3) := by decide +kernel
theorem dX7_measure_10 : decode cX7_measure 10 = .ok (.iconst 0, 1) := by decide +kernel
theorem dX7_measure_11 : decode cX7_measure 11 = .ok (.istore 4, 2) := by decide +kernel
theorem dX7_measure_13 : decode cX7_measure 13 = .ok (.iload 4, 2) := by decide +kernel
theorem dX7_measure_15 : decode cX7_measure 15 = .ok (.aload_n 1, 1) := by decide +kernel
theorem dX7_measure_16 : decode cX7_measure 16 = .ok (.getfield 16, 3) := by decide +kernel
theorem dX7_measure_19 : decode cX7_measure 19 = .ok (.if_icmp .ge 65, 3) := by decide +kernel
theorem dX7_measure_22 : decode cX7_measure 22 = .ok (.aload_n 1, 1) := by decide +kernel
theorem dX7_measure_23 : decode cX7_measure 23 = .ok (.iload 4, 2) := by decide +kernel
theorem dX7_measure_25 : decode cX7_measure 25 = .ok (.aload_n 2, 1) := by decide +kernel
theorem dX7_measure_26 : decode cX7_measure 26 = .ok (.iload_n 3, 1) := by decide +kernel
theorem dX7_measure_27 : decode cX7_measure 27 = .ok (.invokestatic 21, 3) := by decide +kernel
theorem dX7_measure_30 : decode cX7_measure 30 = .ok (.istore 5, 2) := by decide +kernel
theorem dX7_measure_32 : decode cX7_measure 32 = .ok (.aload_n 1, 1) := by decide +kernel
theorem dX7_measure_33 : decode cX7_measure 33 = .ok (.iload 4, 2) := by decide +kernel
theorem dX7_measure_35 : decode cX7_measure 35 = .ok (.aload_n 2, 1) := by decide +kernel
theorem dX7_measure_36 : decode cX7_measure 36 = .ok (.iload_n 3, 1) := by decide +kernel
theorem dX7_measure_37 : decode cX7_measure 37 = .ok (.iload 5, 2) := by decide +kernel
theorem dX7_measure_39 : decode cX7_measure 39 = .ok (.invokestatic 25, 3) := by decide +kernel
theorem dX7_measure_42 : decode cX7_measure 42 = .ok (.istore 6, 2) := by decide +kernel
theorem dX7_measure_44 : decode cX7_measure 44 = .ok (.aload_n 0, 1) := by decide +kernel
theorem dX7_measure_45 : decode cX7_measure 45 = .ok (.aload_n 0, 1) := by decide +kernel
theorem dX7_measure_46 : decode cX7_measure 46 = .ok (.getfield 7, 3) := by decide +kernel
theorem dX7_measure_49 : decode cX7_measure 49 = .ok (.iload 6, 2) := by decide +kernel
theorem dX7_measure_51 : decode cX7_measure 51 = .ok (.invokestatic 29, 3) := by decide +kernel
theorem dX7_measure_54 : decode cX7_measure 54 = .ok (.putfield 7, 3) := by decide +kernel
theorem dX7_measure_57 : decode cX7_measure 57 = .ok (.aload_n 0, 1) := by decide +kernel
theorem dX7_measure_58 : decode cX7_measure 58 = .ok (.aload_n 0, 1) := by decide +kernel
theorem dX7_measure_59 : decode cX7_measure 59 = .ok (.getfield 13, 3) := by decide +kernel
theorem dX7_measure_62 : decode cX7_measure 62 = .ok (.iload 5, 2) := by decide +kernel
theorem dX7_measure_64 : decode cX7_measure 64 = .ok (.aload_n 0, 1) := by decide +kernel
theorem dX7_measure_65 : decode cX7_measure 65 = .ok (.getfield 13, 3) := by decide +kernel
theorem dX7_measure_68 : decode cX7_measure 68 = .ok (.invokestatic 35, 3) := by decide +kernel
theorem dX7_measure_71 : decode cX7_measure 71 = .ok (.idiv, 1) := by decide +kernel
theorem dX7_measure_72 : decode cX7_measure 72 = .ok (.iload 5, 2) := by decide +kernel
theorem dX7_measure_74 : decode cX7_measure 74 = .ok (.imul, 1) := by decide +kernel
theorem dX7_measure_75 : decode cX7_measure 75 = .ok (.putfield 13, 3) := by decide +kernel
theorem dX7_measure_78 : decode cX7_measure 78 = .ok (.iinc 4 1, 3) := by decide +kernel
theorem dX7_measure_81 : decode cX7_measure 81 = .ok (.goto (-68), 3) := by decide +kernel
theorem dX7_measure_84 : decode cX7_measure 84 = .ok (.return_, 1) := by decide +kernel
theorem dX7_lapOf_0 : decode cX7_lapOf 0 = .ok (.aload_n 0, 1) := by decide +kernel
theorem dX7_lapOf_1 : decode cX7_lapOf 1 = .ok (.getfield 40, 3) := by decide +kernel
theorem dX7_lapOf_4 : decode cX7_lapOf 4 = .ok (.iload_n 1, 1) := by decide +kernel
theorem dX7_lapOf_5 : decode cX7_lapOf 5 = .ok (.iaload, 1) := by decide +kernel
theorem dX7_lapOf_6 : decode cX7_lapOf 6 = .ok (.istore 4, 2) := by decide +kernel
theorem dX7_lapOf_8 : decode cX7_lapOf 8 = .ok (.aload_n 0, 1) := by decide +kernel
theorem dX7_lapOf_9 : decode cX7_lapOf 9 = .ok (.iload_n 1, 1) := by decide +kernel
theorem dX7_lapOf_10 : decode cX7_lapOf 10 = .ok (.iload 4, 2) := by decide +kernel
theorem dX7_lapOf_12 : decode cX7_lapOf 12 = .ok (.aload_n 2, 1) := by decide +kernel
theorem dX7_lapOf_13 : decode cX7_lapOf 13 = .ok (.iload_n 3, 1) := by decide +kernel
theorem dX7_lapOf_14 : decode cX7_lapOf 14 = .ok (.invokevirtual 44, 3) := by decide +kernel
theorem dX7_lapOf_17 : decode cX7_lapOf 17 = .ok (.istore 5, 2) := by decide +kernel
theorem dX7_lapOf_19 : decode cX7_lapOf 19 = .ok (.iconst 1, 1) := by decide +kernel
theorem dX7_lapOf_20 : decode cX7_lapOf 20 = .ok (.istore 6, 2) := by decide +kernel
theorem dX7_lapOf_22 : decode cX7_lapOf 22 = .ok (.iconst 1, 1) := by decide +kernel
theorem dX7_lapOf_23 : decode cX7_lapOf 23 = .ok (.istore 7, 2) := by decide +kernel
theorem dX7_lapOf_25 : decode cX7_lapOf 25 = .ok (.iconst 0, 1) := by decide +kernel
theorem dX7_lapOf_26 : decode cX7_lapOf 26 = .ok (.istore 8, 2) := by decide +kernel
theorem dX7_lapOf_28 : decode cX7_lapOf 28 = .ok (.iload 5, 2) := by decide +kernel
theorem dX7_lapOf_30 : decode cX7_lapOf 30 = .ok (.iload 4, 2) := by decide +kernel
theorem dX7_lapOf_32 : decode cX7_lapOf 32 = .ok (.if_icmp .eq 50, 3) := by decide +kernel
theorem dX7_lapOf_35 : decode cX7_lapOf 35 = .ok (.iload 8, 2) := by decide +kernel
theorem dX7_lapOf_37 : decode cX7_lapOf 37 = .ok (.ldc 48, 2) := by decide +kernel
theorem dX7_lapOf_39 : decode cX7_lapOf 39 = .ok (.if_icmp .ge 43, 3) := by decide +kernel
theorem dX7_lapOf_42 : decode cX7_lapOf 42 = .ok (.iload 6, 2) := by decide +kernel
theorem dX7_lapOf_44 : decode cX7_lapOf 44 = .ok (.iload 7, 2) := by decide +kernel
theorem dX7_lapOf_46 : decode cX7_lapOf 46 = .ok (.if_icmp .ne 16, 3) := by decide +kernel
theorem dX7_lapOf_49 : decode cX7_lapOf 49 = .ok (.iload 5, 2) := by decide +kernel
theorem dX7_lapOf_51 : decode cX7_lapOf 51 = .ok (.istore 4, 2) := by decide +kernel
theorem dX7_lapOf_53 : decode cX7_lapOf 53 = .ok (.iload 7, 2) := by decide +kernel
theorem dX7_lapOf_55 : decode cX7_lapOf 55 = .ok (.iconst 2, 1) := by decide +kernel
theorem dX7_lapOf_56 : decode cX7_lapOf 56 = .ok (.imul, 1) := by decide +kernel
theorem dX7_lapOf_57 : decode cX7_lapOf 57 = .ok (.istore 7, 2) := by decide +kernel
theorem dX7_lapOf_59 : decode cX7_lapOf 59 = .ok (.iconst 0, 1) := by decide +kernel
theorem dX7_lapOf_60 : decode cX7_lapOf 60 = .ok (.istore 6, 2) := by decide +kernel
theorem dX7_lapOf_62 : decode cX7_lapOf 62 = .ok (.aload_n 0, 1) := by decide +kernel
theorem dX7_lapOf_63 : decode cX7_lapOf 63 = .ok (.iload_n 1, 1) := by decide +kernel
theorem dX7_lapOf_64 : decode cX7_lapOf 64 = .ok (.iload 5, 2) := by decide +kernel
theorem dX7_lapOf_66 : decode cX7_lapOf 66 = .ok (.aload_n 2, 1) := by decide +kernel
theorem dX7_lapOf_67 : decode cX7_lapOf 67 = .ok (.iload_n 3, 1) := by decide +kernel
theorem dX7_lapOf_68 : decode cX7_lapOf 68 = .ok (.invokevirtual 44, 3) := by decide +kernel
theorem dX7_lapOf_71 : decode cX7_lapOf 71 = .ok (.istore 5, 2) := by decide +kernel
theorem dX7_lapOf_73 : decode cX7_lapOf 73 = .ok (.iinc 6 1, 3) := by decide +kernel
theorem dX7_lapOf_76 : decode cX7_lapOf 76 = .ok (.iinc 8 1, 3) := by decide +kernel
theorem dX7_lapOf_79 : decode cX7_lapOf 79 = .ok (.goto (-51), 3) := by decide +kernel
theorem dX7_lapOf_82 : decode cX7_lapOf 82 = .ok (.iload 6, 2) := by decide +kernel
theorem dX7_lapOf_84 : decode cX7_lapOf 84 = .ok (.ireturn, 1) := by decide +kernel
theorem dX7_leadOf_0 : decode cX7_leadOf 0 = .ok (.aload_n 0, 1) := by decide +kernel
theorem dX7_leadOf_1 : decode cX7_leadOf 1 = .ok (.getfield 40, 3) := by decide +kernel
theorem dX7_leadOf_4 : decode cX7_leadOf 4 = .ok (.iload_n 1, 1) := by decide +kernel
theorem dX7_leadOf_5 : decode cX7_leadOf 5 = .ok (.iaload, 1) := by decide +kernel
theorem dX7_leadOf_6 : decode cX7_leadOf 6 = .ok (.istore 5, 2) := by decide +kernel
theorem dX7_leadOf_8 : decode cX7_leadOf 8 = .ok (.iload 5, 2) := by decide +kernel
theorem dX7_leadOf_10 : decode cX7_leadOf 10 = .ok (.istore 6, 2) := by decide +kernel
theorem dX7_leadOf_12 : decode cX7_leadOf 12 = .ok (.iconst 0, 1) := by decide +kernel
theorem dX7_leadOf_13 : decode cX7_leadOf 13 = .ok (.istore 7, 2) := by decide +kernel
theorem dX7_leadOf_15 : decode cX7_leadOf 15 = .ok (.iload 7, 2) := by decide +kernel
theorem dX7_leadOf_17 : decode cX7_leadOf 17 = .ok (.iload 4, 2) := by decide +kernel
theorem dX7_leadOf_19 : decode cX7_leadOf 19 = .ok (.if_icmp .ge 20, 3) := by decide +kernel
theorem dX7_leadOf_22 : decode cX7_leadOf 22 = .ok (.aload_n 0, 1) := by decide +kernel
theorem dX7_leadOf_23 : decode cX7_leadOf 23 = .ok (.iload_n 1, 1) := by decide +kernel
theorem dX7_leadOf_24 : decode cX7_leadOf 24 = .ok (.iload 6, 2) := by decide +kernel
theorem dX7_leadOf_26 : decode cX7_leadOf 26 = .ok (.aload_n 2, 1) := by decide +kernel
theorem dX7_leadOf_27 : decode cX7_leadOf 27 = .ok (.iload_n 3, 1) := by decide +kernel
theorem dX7_leadOf_28 : decode cX7_leadOf 28 = .ok (.invokevirtual 44, 3) := by decide +kernel
theorem dX7_leadOf_31 : decode cX7_leadOf 31 = .ok (.istore 6, 2) := by decide +kernel
theorem dX7_leadOf_33 : decode cX7_leadOf 33 = .ok (.iinc 7 1, 3) := by decide +kernel
theorem dX7_leadOf_36 : decode cX7_leadOf 36 = .ok (.goto (-21), 3) := by decide +kernel
theorem dX7_leadOf_39 : decode cX7_leadOf 39 = .ok (.iconst 0, 1) := by decide +kernel
theorem dX7_leadOf_40 : decode cX7_leadOf 40 = .ok (.istore 7, 2) := by decide +kernel
theorem dX7_leadOf_42 : decode cX7_leadOf 42 = .ok (.iconst 0, 1) := by decide +kernel
theorem dX7_leadOf_43 : decode cX7_leadOf 43 = .ok (.istore 8, 2) := by decide +kernel
theorem dX7_leadOf_45 : decode cX7_leadOf 45 = .ok (.iload 6, 2) := by decide +kernel
theorem dX7_leadOf_47 : decode cX7_leadOf 47 = .ok (.iload 5, 2) := by decide +kernel
theorem dX7_leadOf_49 : decode cX7_leadOf 49 = .ok (.if_icmp .eq 41, 3) := by decide +kernel
theorem dX7_leadOf_52 : decode cX7_leadOf 52 = .ok (.iload 8, 2) := by decide +kernel
theorem dX7_leadOf_54 : decode cX7_leadOf 54 = .ok (.ldc 48, 2) := by decide +kernel
theorem dX7_leadOf_56 : decode cX7_leadOf 56 = .ok (.if_icmp .ge 34, 3) := by decide +kernel
theorem dX7_leadOf_59 : decode cX7_leadOf 59 = .ok (.aload_n 0, 1) := by decide +kernel
theorem dX7_leadOf_60 : decode cX7_leadOf 60 = .ok (.iload_n 1, 1) := by decide +kernel
theorem dX7_leadOf_61 : decode cX7_leadOf 61 = .ok (.iload 6, 2) := by decide +kernel
theorem dX7_leadOf_63 : decode cX7_leadOf 63 = .ok (.aload_n 2, 1) := by decide +kernel
theorem dX7_leadOf_64 : decode cX7_leadOf 64 = .ok (.iload_n 3, 1) := by decide +kernel
theorem dX7_leadOf_65 : decode cX7_leadOf 65 = .ok (.invokevirtual 44, 3) := by decide +kernel
theorem dX7_leadOf_68 : decode cX7_leadOf 68 = .ok (.istore 6, 2) := by decide +kernel
theorem dX7_leadOf_70 : decode cX7_leadOf 70 = .ok (.aload_n 0, 1) := by decide +kernel
theorem dX7_leadOf_71 : decode cX7_leadOf 71 = .ok (.iload_n 1, 1) := by decide +kernel
theorem dX7_leadOf_72 : decode cX7_leadOf 72 = .ok (.iload 5, 2) := by decide +kernel
theorem dX7_leadOf_74 : decode cX7_leadOf 74 = .ok (.aload_n 2, 1) := by decide +kernel
theorem dX7_leadOf_75 : decode cX7_leadOf 75 = .ok (.iload_n 3, 1) := by decide +kernel
theorem dX7_leadOf_76 : decode cX7_leadOf 76 = .ok (.invokevirtual 44, 3) := by decide +kernel
theorem dX7_leadOf_79 : decode cX7_leadOf 79 = .ok (.istore 5, 2) := by decide +kernel
theorem dX7_leadOf_81 : decode cX7_leadOf 81 = .ok (.iinc 7 1, 3) := by decide +kernel
theorem dX7_leadOf_84 : decode cX7_leadOf 84 = .ok (.iinc 8 1, 3) := by decide +kernel
theorem dX7_leadOf_87 : decode cX7_leadOf 87 = .ok (.goto (-42), 3) := by decide +kernel
theorem dX7_leadOf_90 : decode cX7_leadOf 90 = .ok (.iload 7, 2) := by decide +kernel
theorem dX7_leadOf_92 : decode cX7_leadOf 92 = .ok (.ireturn, 1) := by decide +kernel
theorem dX8_init_0 : decode cX8_init 0 = .ok (.aload_n 0, 1) := by decide +kernel
theorem dX8_init_1 : decode cX8_init 1 = .ok (.invokespecial 3, 3) := by decide +kernel
theorem dX8_init_4 : decode cX8_init 4 = .ok (.aload_n 0, 1) := by decide +kernel
theorem dX8_init_5 : decode cX8_init 5 = .ok (.iconst (-1), 1) := by decide +kernel
theorem dX8_init_6 : decode cX8_init 6 = .ok (.putfield 11, 3) := by decide +kernel
theorem dX8_init_9 : decode cX8_init 9 = .ok (.aload_n 0, 1) := by decide +kernel
theorem dX8_init_10 : decode cX8_init 10 = .ok (.bipush 24, 2) := by decide +kernel
theorem dX8_init_12 : decode cX8_init 12 = .ok (.newarray .long, 2) := by decide +kernel
theorem dX8_init_14 : decode cX8_init 14 = .ok (.putfield 15, 3) := by decide +kernel
theorem dX8_init_17 : decode cX8_init 17 = .ok (.return_, 1) := by decide +kernel
theorem dX8_isLane_0 : decode cX8_isLane 0 = .ok (.iload_n 0, 1) := by decide +kernel
theorem dX8_isLane_1 : decode cX8_isLane 1 = .ok (.ifCond .lt 12, 3) := by decide +kernel
theorem dX8_isLane_4 : decode cX8_isLane 4 = .ok (.iload_n 0, 1) := by decide +kernel
theorem dX8_isLane_5 : decode cX8_isLane 5 = .ok (.iconst 3, 1) := by decide +kernel
theorem dX8_isLane_6 : decode cX8_isLane 6 = .ok (.if_icmp .gt 7, 3) := by decide +kernel
theorem dX8_isLane_9 : decode cX8_isLane 9 = .ok (.iconst 1, 1) := by decide +kernel
theorem dX8_isLane_10 : decode cX8_isLane 10 = .ok (.goto 4, 3) := by decide +kernel
theorem dX8_isLane_13 : decode cX8_isLane 13 = .ok (.iconst 0, 1) := by decide +kernel
theorem dX8_isLane_14 : decode cX8_isLane 14 = .ok (.ireturn, 1) := by decide +kernel
theorem dX8_isNothing_0 : decode cX8_isNothing 0 = .ok (.aload_n 0, 1) := by decide +kernel
theorem dX8_isNothing_1 : decode cX8_isNothing 1 = .ok (.getfield 11, 3) := by decide +kernel
theorem dX8_isNothing_4 : decode cX8_isNothing 4 = .ok (.iconst (-1), 1) := by decide +kernel
theorem dX8_isNothing_5 : decode cX8_isNothing 5 = .ok (.if_icmp .ne 7, 3) := by decide +kernel
theorem dX8_isNothing_8 : decode cX8_isNothing 8 = .ok (.iconst 1, 1) := by decide +kernel
theorem dX8_isNothing_9 : decode cX8_isNothing 9 = .ok (.goto 4, 3) := by decide +kernel
theorem dX8_isNothing_12 : decode cX8_isNothing 12 = .ok (.iconst 0, 1) := by decide +kernel
theorem dX8_isNothing_13 : decode cX8_isNothing 13 = .ok (.ireturn, 1) := by decide +kernel
theorem dX8_begin_0 : decode cX8_begin 0 = .ok (.aload_n 0, 1) := by decide +kernel
theorem dX8_begin_1 : decode cX8_begin 1 = .ok (.iload_n 1, 1) := by decide +kernel
theorem dX8_begin_2 : decode cX8_begin 2 = .ok (.putfield 11, 3) := by decide +kernel
theorem dX8_begin_5 : decode cX8_begin 5 = .ok (.aload_n 0, 1) := by decide +kernel
theorem dX8_begin_6 : decode cX8_begin 6 = .ok (.iload_n 2, 1) := by decide +kernel
theorem dX8_begin_7 : decode cX8_begin 7 = .ok (.putfield 19, 3) := by decide +kernel
theorem dX8_begin_10 : decode cX8_begin 10 = .ok (.iconst 0, 1) := by decide +kernel
theorem dX8_begin_11 : decode cX8_begin 11 = .ok (.istore_n 3, 1) := by decide +kernel
theorem dX8_begin_12 : decode cX8_begin 12 = .ok (.iload_n 3, 1) := by decide +kernel
theorem dX8_begin_13 : decode cX8_begin 13 = .ok (.bipush 24, 2) := by decide +kernel
theorem dX8_begin_15 : decode cX8_begin 15 = .ok (.if_icmp .ge 16, 3) := by decide +kernel
theorem dX8_begin_18 : decode cX8_begin 18 = .ok (.aload_n 0, 1) := by decide +kernel
theorem dX8_begin_19 : decode cX8_begin 19 = .ok (.getfield 15, 3) := by decide +kernel
theorem dX8_begin_22 : decode cX8_begin 22 = .ok (.iload_n 3, 1) := by decide +kernel
theorem dX8_begin_23 : decode cX8_begin 23 = .ok (.lconst 0, 1) := by decide +kernel
theorem dX8_begin_24 : decode cX8_begin 24 = .ok (.lastore, 1) := by decide +kernel
theorem dX8_begin_25 : decode cX8_begin 25 = .ok (.iinc 3 1, 3) := by decide +kernel
theorem dX8_begin_28 : decode cX8_begin 28 = .ok (.goto (-16), 3) := by decide +kernel
theorem dX8_begin_31 : decode cX8_begin 31 = .ok (.return_, 1) := by decide +kernel
theorem dX8_end_0 : decode cX8_end 0 = .ok (.aload_n 0, 1) := by decide +kernel
theorem dX8_end_1 : decode cX8_end 1 = .ok (.iconst (-1), 1) := by decide +kernel
theorem dX8_end_2 : decode cX8_end 2 = .ok (.putfield 11, 3) := by decide +kernel
theorem dX8_end_5 : decode cX8_end 5 = .ok (.aload_n 0, 1) := by decide +kernel
theorem dX8_end_6 : decode cX8_end 6 = .ok (.getfield 19, 3) := by decide +kernel
theorem dX8_end_9 : decode cX8_end 9 = .ok (.ireturn, 1) := by decide +kernel
theorem dX8_holds_0 : decode cX8_holds 0 = .ok (.iload_n 1, 1) := by decide +kernel
theorem dX8_holds_1 : decode cX8_holds 1 = .ok (.ifCond .lt 29, 3) := by decide +kernel
theorem dX8_holds_4 : decode cX8_holds 4 = .ok (.iload_n 2, 1) := by decide +kernel
theorem dX8_holds_5 : decode cX8_holds 5 = .ok (.ifCond .lt 25, 3) := by decide +kernel
theorem dX8_holds_8 : decode cX8_holds 8 = .ok (.iload_n 2, 1) := by decide +kernel
theorem dX8_holds_9 : decode cX8_holds 9 = .ok (.aload_n 0, 1) := by decide +kernel
theorem dX8_holds_10 : decode cX8_holds 10 = .ok (.getfield 19, 3) := by decide +kernel
theorem dX8_holds_13 : decode cX8_holds 13 = .ok (.if_icmp .gt 17, 3) := by decide +kernel
theorem dX8_holds_16 : decode cX8_holds 16 = .ok (.iload_n 1, 1) := by decide +kernel
theorem dX8_holds_17 : decode cX8_holds 17 = .ok (.aload_n 0, 1) := by decide +kernel
theorem dX8_holds_18 : decode cX8_holds 18 = .ok (.getfield 19, 3) := by decide +kernel
theorem dX8_holds_21 : decode cX8_holds 21 = .ok (.iload_n 2, 1) := by decide +kernel
theorem dX8_holds_22 : decode cX8_holds 22 = .ok (.isub, 1) := by decide +kernel
theorem dX8_holds_23 : decode cX8_holds 23 = .ok (.if_icmp .gt 7, 3) := by decide +kernel
theorem dX8_holds_26 : decode cX8_holds 26 = .ok (.iconst 1, 1) := by decide +kernel
theorem dX8_holds_27 : decode cX8_holds 27 = .ok (.goto 4, 3) := by decide +kernel
theorem dX8_holds_30 : decode cX8_holds 30 = .ok (.iconst 0, 1) := by decide +kernel
theorem dX8_holds_31 : decode cX8_holds 31 = .ok (.ireturn, 1) := by decide +kernel
theorem dX8_refusal_0 : decode cX8_refusal 0 = .ok (.aload_n 0, 1) := by decide +kernel
theorem dX8_refusal_1 : decode cX8_refusal 1 = .ok (.invokevirtual 22, 3) := by decide +kernel
theorem dX8_refusal_4 : decode cX8_refusal 4 = .ok (.ifCond .eq 6, 3) := by decide +kernel
theorem dX8_refusal_7 : decode cX8_refusal 7 = .ok (.bipush (-11), 2) := by decide +kernel
theorem dX8_refusal_9 : decode cX8_refusal 9 = .ok (.ireturn, 1) := by decide +kernel
theorem dX8_refusal_10 : decode cX8_refusal 10 = .ok (.aload_n 0, 1) := by decide +kernel
theorem dX8_refusal_11 : decode cX8_refusal 11 = .ok (.getfield 11, 3) := by decide +kernel
theorem dX8_refusal_14 : decode cX8_refusal 14 = .ok (.iload_n 1, 1) := by decide +kernel
theorem dX8_refusal_15 : decode cX8_refusal 15 = .ok (.if_icmp .eq 6, 3) := by decide +kernel
theorem dX8_refusal_18 : decode cX8_refusal 18 = .ok (.bipush (-12), 2) := by decide +kernel
theorem dX8_refusal_20 : decode cX8_refusal 20 = .ok (.ireturn, 1) := by decide +kernel
theorem dX8_refusal_21 : decode cX8_refusal 21 = .ok (.aload_n 0, 1) := by decide +kernel
theorem dX8_refusal_22 : decode cX8_refusal 22 = .ok (.iload_n 2, 1) := by decide +kernel
theorem dX8_refusal_23 : decode cX8_refusal 23 = .ok (.iload_n 3, 1) := by decide +kernel
theorem dX8_refusal_24 : decode cX8_refusal 24 = .ok (.invokevirtual 26, 3) := by decide +kernel
theorem dX8_refusal_27 : decode cX8_refusal 27 = .ok (.ifCond .eq 7, 3) := by decide +kernel
theorem dX8_refusal_30 : decode cX8_refusal 30 = .ok (.iconst 0, 1) := by decide +kernel
theorem dX8_refusal_31 : decode cX8_refusal 31 = .ok (.goto 5, 3) := by decide +kernel
theorem dX8_refusal_34 : decode cX8_refusal 34 = .ok (.bipush (-13), 2) := by decide +kernel
theorem dX8_refusal_36 : decode cX8_refusal 36 = .ok (.ireturn, 1) := by decide +kernel
theorem dX8_put_0 : decode cX8_put 0 = .ok (.aload_n 0, 1) := by decide +kernel
theorem dX8_put_1 : decode cX8_put 1 = .ok (.getfield 11, 3) := by decide +kernel
theorem dX8_put_4 : decode cX8_put 4 = .ok (.tableswitch 66 0 2 #[28, 41, 54], 28) := by decide +kernel
theorem dX8_put_32 : decode cX8_put 32 = .ok (.aload_n 0, 1) := by decide +kernel
theorem dX8_put_33 : decode cX8_put 33 = .ok (.getfield 15, 3) := by decide +kernel
theorem dX8_put_36 : decode cX8_put 36 = .ok (.iload_n 1, 1) := by decide +kernel
theorem dX8_put_37 : decode cX8_put 37 = .ok (.lload_n 2, 1) := by decide +kernel
theorem dX8_put_38 : decode cX8_put 38 = .ok (.l2i, 1) := by decide +kernel
theorem dX8_put_39 : decode cX8_put 39 = .ok (.i2b, 1) := by decide +kernel
theorem dX8_put_40 : decode cX8_put 40 = .ok (.i2l, 1) := by decide +kernel
theorem dX8_put_41 : decode cX8_put 41 = .ok (.lastore, 1) := by decide +kernel
theorem dX8_put_42 : decode cX8_put 42 = .ok (.goto 35, 3) := by decide +kernel
theorem dX8_put_45 : decode cX8_put 45 = .ok (.aload_n 0, 1) := by decide +kernel
theorem dX8_put_46 : decode cX8_put 46 = .ok (.getfield 15, 3) := by decide +kernel
theorem dX8_put_49 : decode cX8_put 49 = .ok (.iload_n 1, 1) := by decide +kernel
theorem dX8_put_50 : decode cX8_put 50 = .ok (.lload_n 2, 1) := by decide +kernel
theorem dX8_put_51 : decode cX8_put 51 = .ok (.l2i, 1) := by decide +kernel
theorem dX8_put_52 : decode cX8_put 52 = .ok (.i2s, 1) := by decide +kernel
theorem dX8_put_53 : decode cX8_put 53 = .ok (.i2l, 1) := by decide +kernel
theorem dX8_put_54 : decode cX8_put 54 = .ok (.lastore, 1) := by decide +kernel
theorem dX8_put_55 : decode cX8_put 55 = .ok (.goto 22, 3) := by decide +kernel
theorem dX8_put_58 : decode cX8_put 58 = .ok (.aload_n 0, 1) := by decide +kernel
theorem dX8_put_59 : decode cX8_put 59 = .ok (.getfield 15, 3) := by decide +kernel
theorem dX8_put_62 : decode cX8_put 62 = .ok (.iload_n 1, 1) := by decide +kernel
theorem dX8_put_63 : decode cX8_put 63 = .ok (.lload_n 2, 1) := by decide +kernel
theorem dX8_put_64 : decode cX8_put 64 = .ok (.l2i, 1) := by decide +kernel
theorem dX8_put_65 : decode cX8_put 65 = .ok (.i2l, 1) := by decide +kernel
theorem dX8_put_66 : decode cX8_put 66 = .ok (.lastore, 1) := by decide +kernel
theorem dX8_put_67 : decode cX8_put 67 = .ok (.goto 10, 3) := by decide +kernel
theorem dX8_put_70 : decode cX8_put 70 = .ok (.aload_n 0, 1) := by decide +kernel
theorem dX8_put_71 : decode cX8_put 71 = .ok (.getfield 15, 3) := by decide +kernel
theorem dX8_put_74 : decode cX8_put 74 = .ok (.iload_n 1, 1) := by decide +kernel
theorem dX8_put_75 : decode cX8_put 75 = .ok (.lload_n 2, 1) := by decide +kernel
theorem dX8_put_76 : decode cX8_put 76 = .ok (.lastore, 1) := by decide +kernel
theorem dX8_put_77 : decode cX8_put 77 = .ok (.aload_n 0, 1) := by decide +kernel
theorem dX8_put_78 : decode cX8_put 78 = .ok (.getfield 15, 3) := by decide +kernel
theorem dX8_put_81 : decode cX8_put 81 = .ok (.iload_n 1, 1) := by decide +kernel
theorem dX8_put_82 : decode cX8_put 82 = .ok (.laload, 1) := by decide +kernel
theorem dX8_put_83 : decode cX8_put 83 = .ok (.lreturn, 1) := by decide +kernel
