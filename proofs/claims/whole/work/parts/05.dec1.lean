theorem dX5_isWaxOnly_0 : decode cX5_isWaxOnly 0 = .ok (.iload_n 0, 1) := by decide +kernel
theorem dX5_isWaxOnly_1 : decode cX5_isWaxOnly 1 = .ok (.bipush 10, 2) := by decide +kernel
theorem dX5_isWaxOnly_3 : decode cX5_isWaxOnly 3 = .ok (.if_icmp .lt 13, 3) := by decide +kernel
theorem dX5_isWaxOnly_6 : decode cX5_isWaxOnly 6 = .ok (.iload_n 0, 1) := by decide +kernel
theorem dX5_isWaxOnly_7 : decode cX5_isWaxOnly 7 = .ok (.bipush 20, 2) := by decide +kernel
theorem dX5_isWaxOnly_9 : decode cX5_isWaxOnly 9 = .ok (.if_icmp .gt 7, 3) := by decide +kernel
theorem dX5_isWaxOnly_12 : decode cX5_isWaxOnly 12 = .ok (.iconst 1, 1) := by decide +kernel
theorem dX5_isWaxOnly_13 : decode cX5_isWaxOnly 13 = .ok (.goto 4, 3) := by decide +kernel
theorem dX5_isWaxOnly_16 : decode cX5_isWaxOnly 16 = .ok (.iconst 0, 1) := by decide +kernel
theorem dX5_isWaxOnly_17 : decode cX5_isWaxOnly 17 = .ok (.ireturn, 1) := by decide +kernel
theorem dX5_judge_0 : decode cX5_judge 0 = .ok (.iload_n 1, 1) := by decide +kernel
theorem dX5_judge_1 : decode cX5_judge 1 = .ok (.aload_n 0, 1) := by decide +kernel
theorem dX5_judge_2 : decode cX5_judge 2 = .ok (.getfield 38, 3) := by decide +kernel
theorem dX5_judge_5 : decode cX5_judge 5 = .ok (.if_icmp .gt 4, 3) := by decide +kernel
theorem dX5_judge_8 : decode cX5_judge 8 = .ok (.return_, 1) := by decide +kernel
theorem dX5_judge_9 : decode cX5_judge 9 = .ok (.aload_n 0, 1) := by decide +kernel
theorem dX5_judge_10 : decode cX5_judge 10 = .ok (.iload_n 1, 1) := by decide +kernel
theorem dX5_judge_11 : decode cX5_judge 11 = .ok (.putfield 38, 3) := by decide +kernel
theorem dX5_judge_14 : decode cX5_judge 14 = .ok (.aload_n 0, 1) := by decide +kernel
theorem dX5_judge_15 : decode cX5_judge 15 = .ok (.iload_n 2, 1) := by decide +kernel
theorem dX5_judge_16 : decode cX5_judge 16 = .ok (.putfield 42, 3) := by decide +kernel
theorem dX5_judge_19 : decode cX5_judge 19 = .ok (.aload_n 0, 1) := by decide +kernel
theorem dX5_judge_20 : decode cX5_judge 20 = .ok (.getfield 15, 3) := by decide +kernel
theorem dX5_judge_23 : decode cX5_judge 23 = .ok (.iconst 0, 1) := by decide +kernel
theorem dX5_judge_24 : decode cX5_judge 24 = .ok (.aload_n 0, 1) := by decide +kernel
theorem dX5_judge_25 : decode cX5_judge 25 = .ok (.getfield 9, 3) := by decide +kernel
theorem dX5_judge_28 : decode cX5_judge 28 = .ok (.iconst 0, 1) := by decide +kernel
theorem dX5_judge_29 : decode cX5_judge 29 = .ok (.iload_n 2, 1) := by decide +kernel
theorem dX5_judge_30 : decode cX5_judge 30 = .ok (.invokestatic 28, 3) := by decide +kernel
theorem dX5_judge_33 : decode cX5_judge 33 = .ok (.return_, 1) := by decide +kernel
theorem dX6_init_0 : decode cX6_init 0 = .ok (.aload_n 0, 1) := by decide +kernel
theorem dX6_init_1 : decode cX6_init 1 = .ok (.invokespecial 1, 3) := by decide +kernel
theorem dX6_init_4 : decode cX6_init 4 = .ok (.aload_n 0, 1) := by decide +kernel
theorem dX6_init_5 : decode cX6_init 5 = .ok (.new 7, 3) := by decide +kernel
theorem dX6_init_8 : decode cX6_init 8 = .ok (.dup, 1) := by decide +kernel
theorem dX6_init_9 : decode cX6_init 9 = .ok (.invokespecial 9, 3) := by decide +kernel
theorem dX6_init_12 : decode cX6_init 12 = .ok (.putfield 10, 3) := by decide +kernel
theorem dX6_init_15 : decode cX6_init 15 = .ok (.aload_n 0, 1) := by decide +kernel
theorem dX6_init_16 : decode cX6_init 16 = .ok (.aload_n 1, 1) := by decide +kernel
theorem dX6_init_17 : decode cX6_init 17 = .ok (.putfield 16, 3) := by decide +kernel
theorem dX6_init_20 : decode cX6_init 20 = .ok (.return_, 1) := by decide +kernel
theorem dX6_read_0 : decode cX6_read 0 = .ok (.aload_n 0, 1) := by decide +kernel
theorem dX6_read_1 : decode cX6_read 1 = .ok (.iconst 0, 1) := by decide +kernel
theorem dX6_read_2 : decode cX6_read 2 = .ok (.putfield 20, 3) := by decide +kernel
theorem dX6_read_5 : decode cX6_read 5 = .ok (.aload_n 0, 1) := by decide +kernel
theorem dX6_read_6 : decode cX6_read 6 = .ok (.bipush 119, 2) := by decide +kernel
theorem dX6_read_8 : decode cX6_read 8 = .ok (.invokevirtual 24, 3) := by decide +kernel
theorem dX6_read_11 : decode cX6_read 11 = .ok (.ifCond .eq 28, 3) := by decide +kernel
theorem dX6_read_14 : decode cX6_read 14 = .ok (.aload_n 0, 1) := by decide +kernel
theorem dX6_read_15 : decode cX6_read 15 = .ok (.invokevirtual 28, 3) := by decide +kernel
theorem dX6_read_18 : decode cX6_read 18 = .ok (.ifCond .eq 21, 3) := by decide +kernel
theorem dX6_read_21 : decode cX6_read 21 = .ok (.aload_n 0, 1) := by decide +kernel
theorem dX6_read_22 : decode cX6_read 22 = .ok (.invokevirtual 32, 3) := by decide +kernel
theorem dX6_read_25 : decode cX6_read 25 = .ok (.ifCond .eq 14, 3) := by decide +kernel
theorem dX6_read_28 : decode cX6_read 28 = .ok (.aload_n 0, 1) := by decide +kernel
theorem dX6_read_29 : decode cX6_read 29 = .ok (.invokevirtual 35, 3) := by decide +kernel
theorem dX6_read_32 : decode cX6_read 32 = .ok (.ifCond .eq 7, 3) := by decide +kernel
theorem dX6_read_35 : decode cX6_read 35 = .ok (.iconst 1, 1) := by decide +kernel
theorem dX6_read_36 : decode cX6_read 36 = .ok (.goto 4, 3) := by decide +kernel
theorem dX6_read_39 : decode cX6_read 39 = .ok (.iconst 0, 1) := by decide +kernel
theorem dX6_read_40 : decode cX6_read 40 = .ok (.ireturn, 1) := by decide +kernel
theorem dX6_sign_0 : decode cX6_sign 0 = .ok (.aload_n 0, 1) := by decide +kernel
theorem dX6_sign_1 : decode cX6_sign 1 = .ok (.getfield 16, 3) := by decide +kernel
theorem dX6_sign_4 : decode cX6_sign 4 = .ok (.aload_n 0, 1) := by decide +kernel
theorem dX6_sign_5 : decode cX6_sign 5 = .ok (.getfield 20, 3) := by decide +kernel
theorem dX6_sign_8 : decode cX6_sign 8 = .ok (.invokevirtual 38, 3) := by decide +kernel
theorem dX6_sign_11 : decode cX6_sign 11 = .ok (.iload_n 1, 1) := by decide +kernel
theorem dX6_sign_12 : decode cX6_sign 12 = .ok (.if_icmp .eq 5, 3) := by decide +kernel
theorem dX6_sign_15 : decode cX6_sign 15 = .ok (.iconst 0, 1) := by decide +kernel
theorem dX6_sign_16 : decode cX6_sign 16 = .ok (.ireturn, 1) := by decide +kernel
theorem dX6_sign_17 : decode cX6_sign 17 = .ok (.aload_n 0, 1) := by decide +kernel
theorem dX6_sign_18 : decode cX6_sign 18 = .ok (.dup, 1) := by decide +kernel
theorem dX6_sign_19 : decode cX6_sign 19 = .ok (.getfield 20, 3) := by decide +kernel
theorem dX6_sign_22 : decode cX6_sign 22 = .ok (.iconst 1, 1) := by decide +kernel
theorem dX6_sign_23 : decode cX6_sign 23 = .ok (.iadd, 1) := by decide +kernel
theorem dX6_sign_24 : decode cX6_sign 24 = .ok (.putfield 20, 3) := by decide +kernel
theorem dX6_sign_27 : decode cX6_sign 27 = .ok (.iconst 1, 1) := by decide +kernel
theorem dX6_sign_28 : decode cX6_sign 28 = .ok (.ireturn, 1) := by decide +kernel
theorem dX6_figure_0 : decode cX6_figure 0 = .ok (.aload_n 0, 1) := by decide +kernel
theorem dX6_figure_1 : decode cX6_figure 1 = .ok (.getfield 16, 3) := by decide +kernel
theorem dX6_figure_4 : decode cX6_figure 4 = .ok (.aload_n 0, 1) := by decide +kernel
theorem dX6_figure_5 : decode cX6_figure 5 = .ok (.getfield 20, 3) := by decide +kernel
theorem dX6_figure_8 : decode cX6_figure 8 = .ok (.invokevirtual 38, 3) := by decide +kernel
theorem dX6_figure_11 : decode cX6_figure 11 = .ok (.bipush 48, 2) := by decide +kernel
theorem dX6_figure_13 : decode cX6_figure 13 = .ok (.isub, 1) := by decide +kernel
theorem dX6_figure_14 : decode cX6_figure 14 = .ok (.istore_n 3, 1) := by decide +kernel
theorem dX6_figure_15 : decode cX6_figure 15 = .ok (.iload_n 3, 1) := by decide +kernel
theorem dX6_figure_16 : decode cX6_figure 16 = .ok (.iload_n 1, 1) := by decide +kernel
theorem dX6_figure_17 : decode cX6_figure 17 = .ok (.if_icmp .lt 8, 3) := by decide +kernel
theorem dX6_figure_20 : decode cX6_figure 20 = .ok (.iload_n 3, 1) := by decide +kernel
theorem dX6_figure_21 : decode cX6_figure 21 = .ok (.iload_n 2, 1) := by decide +kernel
theorem dX6_figure_22 : decode cX6_figure 22 = .ok (.if_icmp .le 5, 3) := by decide +kernel
theorem dX6_figure_25 : decode cX6_figure 25 = .ok (.iconst (-1), 1) := by decide +kernel
theorem dX6_figure_26 : decode cX6_figure 26 = .ok (.ireturn, 1) := by decide +kernel
theorem dX6_figure_27 : decode cX6_figure 27 = .ok (.aload_n 0, 1) := by decide +kernel
theorem dX6_figure_28 : decode cX6_figure 28 = .ok (.dup, 1) := by decide +kernel
theorem dX6_figure_29 : decode cX6_figure 29 = .ok (.getfield 20, 3) := by decide +kernel
theorem dX6_figure_32 : decode cX6_figure 32 = .ok (.iconst 1, 1) := by decide +kernel
theorem dX6_figure_33 : decode cX6_figure 33 = .ok (.iadd, 1) := by decide +kernel
theorem dX6_figure_34 : decode cX6_figure 34 = .ok (.putfield 20, 3) := by decide +kernel
theorem dX6_figure_37 : decode cX6_figure 37 = .ok (.iload_n 3, 1) := by decide +kernel
theorem dX6_figure_38 : decode cX6_figure 38 = .ok (.ireturn, 1) := by decide +kernel
theorem dX6_readSquares_0 : decode cX6_readSquares 0 = .ok (.iconst 0, 1) := by decide +kernel
theorem dX6_readSquares_1 : decode cX6_readSquares 1 = .ok (.istore_n 1, 1) := by decide +kernel
theorem dX6_readSquares_2 : decode cX6_readSquares 2 = .ok (.iload_n 1, 1) := by decide +kernel
theorem dX6_readSquares_3 : decode cX6_readSquares 3 = .ok (.bipush 8, 2) := by decide +kernel
theorem dX6_readSquares_5 : decode cX6_readSquares 5 = .ok (.if_icmp .ge 49, 3) := by decide +kernel
theorem dX6_readSquares_8 : decode cX6_readSquares 8 = .ok (.aload_n 0, 1) := by decide +kernel
theorem dX6_readSquares_9 : decode cX6_readSquares 9 = .ok (.iload_n 1, 1) := by decide +kernel
theorem dX6_readSquares_10 : decode cX6_readSquares 10 = .ok (.invokevirtual 44, 3) := by decide +kernel
theorem dX6_readSquares_13 : decode cX6_readSquares 13 = .ok (.ifCond .ne 5, 3) := by decide +kernel
theorem dX6_readSquares_16 : decode cX6_readSquares 16 = .ok (.iconst 0, 1) := by decide +kernel
theorem dX6_readSquares_17 : decode cX6_readSquares 17 = .ok (.ireturn, 1) := by decide +kernel
theorem dX6_readSquares_18 : decode cX6_readSquares 18 = .ok (.aload_n 0, 1) := by decide +kernel
theorem dX6_readSquares_19 : decode cX6_readSquares 19 = .ok (.getfield 10, 3) := by decide +kernel
theorem dX6_readSquares_22 : decode cX6_readSquares 22 = .ok (.iload_n 1, 1) := by decide +kernel
theorem dX6_readSquares_23 : decode cX6_readSquares 23 = .ok (.iconst 1, 1) := by decide +kernel
theorem dX6_readSquares_24 : decode cX6_readSquares 24 = .ok (.iadd, 1) := by decide +kernel
theorem dX6_readSquares_25 : decode cX6_readSquares 25 = .ok (.putfield 47, 3) := by decide +kernel
theorem dX6_readSquares_28 : decode cX6_readSquares 28 = .ok (.iload_n 1, 1) := by decide +kernel
theorem dX6_readSquares_29 : decode cX6_readSquares 29 = .ok (.iconst 1, 1) := by decide +kernel
theorem dX6_readSquares_30 : decode cX6_readSquares 30 = .ok (.iadd, 1) := by decide +kernel
theorem dX6_readSquares_31 : decode cX6_readSquares 31 = .ok (.bipush 8, 2) := by decide +kernel
theorem dX6_readSquares_33 : decode cX6_readSquares 33 = .ok (.if_icmp .eq 21, 3) := by decide +kernel
theorem dX6_readSquares_36 : decode cX6_readSquares 36 = .ok (.aload_n 0, 1) := by decide +kernel
theorem dX6_readSquares_37 : decode cX6_readSquares 37 = .ok (.bipush 44, 2) := by decide +kernel
theorem dX6_readSquares_39 : decode cX6_readSquares 39 = .ok (.invokevirtual 24, 3) := by decide +kernel
theorem dX6_readSquares_42 : decode cX6_readSquares 42 = .ok (.ifCond .ne 6, 3) := by decide +kernel
theorem dX6_readSquares_45 : decode cX6_readSquares 45 = .ok (.goto 9, 3) := by decide +kernel
theorem dX6_readSquares_48 : decode cX6_readSquares 48 = .ok (.iinc 1 1, 3) := by decide +kernel
theorem dX6_readSquares_51 : decode cX6_readSquares 51 = .ok (.goto (-49), 3) := by decide +kernel
theorem dX6_readSquares_54 : decode cX6_readSquares 54 = .ok (.aload_n 0, 1) := by decide +kernel
theorem dX6_readSquares_55 : decode cX6_readSquares 55 = .ok (.bipush 59, 2) := by decide +kernel
theorem dX6_readSquares_57 : decode cX6_readSquares 57 = .ok (.invokevirtual 24, 3) := by decide +kernel
theorem dX6_readSquares_60 : decode cX6_readSquares 60 = .ok (.ireturn, 1) := by decide +kernel
theorem dX6_readSquare_0 : decode cX6_readSquare 0 = .ok (.aload_n 0, 1) := by decide +kernel
theorem dX6_readSquare_1 : decode cX6_readSquare 1 = .ok (.getfield 16, 3) := by decide +kernel
theorem dX6_readSquare_4 : decode cX6_readSquare 4 = .ok (.aload_n 0, 1) := by decide +kernel
theorem dX6_readSquare_5 : decode cX6_readSquare 5 = .ok (.getfield 20, 3) := by decide +kernel
theorem dX6_readSquare_8 : decode cX6_readSquare 8 = .ok (.invokevirtual 38, 3) := by decide +kernel
theorem dX6_readSquare_11 : decode cX6_readSquare 11 = .ok (.invokestatic 50, 3) := by decide +kernel
theorem dX6_readSquare_14 : decode cX6_readSquare 14 = .ok (.istore_n 2, 1) := by decide +kernel
theorem dX6_readSquare_15 : decode cX6_readSquare 15 = .ok (.iload_n 2, 1) := by decide +kernel
theorem dX6_readSquare_16 : decode cX6_readSquare 16 = .ok (.ifCond .ne 5, 3) := by decide +kernel
theorem dX6_readSquare_19 : decode cX6_readSquare 19 = .ok (.iconst 0, 1) := by decide +kernel
theorem dX6_readSquare_20 : decode cX6_readSquare 20 = .ok (.ireturn, 1) := by decide +kernel
theorem dX6_readSquare_21 : decode cX6_readSquare 21 = .ok (.aload_n 0, 1) := by decide +kernel
theorem dX6_readSquare_22 : decode cX6_readSquare 22 = .ok (.dup, 1) := by decide +kernel
theorem dX6_readSquare_23 : decode cX6_readSquare 23 = .ok (.getfield 20, 3) := by decide +kernel
theorem dX6_readSquare_26 : decode cX6_readSquare 26 = .ok (.iconst 1, 1) := by decide +kernel
theorem dX6_readSquare_27 : decode cX6_readSquare 27 = .ok (.iadd, 1) := by decide +kernel
theorem dX6_readSquare_28 : decode cX6_readSquare 28 = .ok (.putfield 20, 3) := by decide +kernel
theorem dX6_readSquare_31 : decode cX6_readSquare 31 = .ok (.aload_n 0, 1) := by decide +kernel
theorem dX6_readSquare_32 : decode cX6_readSquare 32 = .ok (.iconst 0, 1) := by decide +kernel
theorem dX6_readSquare_33 : decode cX6_readSquare 33 = .ok (.bipush 7, 2) := by decide +kernel
theorem dX6_readSquare_35 : decode cX6_readSquare 35 = .ok (.invokevirtual 57, 3) := by decide +kernel
theorem dX6_readSquare_38 : decode cX6_readSquare 38 = .ok (.istore_n 3, 1) := by decide +kernel
theorem dX6_readSquare_39 : decode cX6_readSquare 39 = .ok (.iload_n 3, 1) := by decide +kernel
theorem dX6_readSquare_40 : decode cX6_readSquare 40 = .ok (.iconst (-1), 1) := by decide +kernel
theorem dX6_readSquare_41 : decode cX6_readSquare 41 = .ok (.if_icmp .ne 5, 3) := by decide +kernel
theorem dX6_readSquare_44 : decode cX6_readSquare 44 = .ok (.iconst 0, 1) := by decide +kernel
theorem dX6_readSquare_45 : decode cX6_readSquare 45 = .ok (.ireturn, 1) := by decide +kernel
theorem dX6_readSquare_46 : decode cX6_readSquare 46 = .ok (.aload_n 0, 1) := by decide +kernel
theorem dX6_readSquare_47 : decode cX6_readSquare 47 = .ok (.getfield 10, 3) := by decide +kernel
theorem dX6_readSquare_50 : decode cX6_readSquare 50 = .ok (.getfield 61, 3) := by decide +kernel
theorem dX6_readSquare_53 : decode cX6_readSquare 53 = .ok (.iload_n 1, 1) := by decide +kernel
theorem dX6_readSquare_54 : decode cX6_readSquare 54 = .ok (.iload_n 2, 1) := by decide +kernel
theorem dX6_readSquare_55 : decode cX6_readSquare 55 = .ok (.iastore, 1) := by decide +kernel
theorem dX6_readSquare_56 : decode cX6_readSquare 56 = .ok (.aload_n 0, 1) := by decide +kernel
theorem dX6_readSquare_57 : decode cX6_readSquare 57 = .ok (.getfield 10, 3) := by decide +kernel
theorem dX6_readSquare_60 : decode cX6_readSquare 60 = .ok (.getfield 65, 3) := by decide +kernel
theorem dX6_readSquare_63 : decode cX6_readSquare 63 = .ok (.iload_n 1, 1) := by decide +kernel
theorem dX6_readSquare_64 : decode cX6_readSquare 64 = .ok (.iload_n 3, 1) := by decide +kernel
theorem dX6_readSquare_65 : decode cX6_readSquare 65 = .ok (.iastore, 1) := by decide +kernel
theorem dX6_readSquare_66 : decode cX6_readSquare 66 = .ok (.iconst 1, 1) := by decide +kernel
theorem dX6_readSquare_67 : decode cX6_readSquare 67 = .ok (.ireturn, 1) := by decide +kernel
theorem dX6_readDyes_0 : decode cX6_readDyes 0 = .ok (.iconst 0, 1) := by decide +kernel
theorem dX6_readDyes_1 : decode cX6_readDyes 1 = .ok (.istore_n 1, 1) := by decide +kernel
theorem dX6_readDyes_2 : decode cX6_readDyes 2 = .ok (.iload_n 1, 1) := by decide +kernel
theorem dX6_readDyes_3 : decode cX6_readDyes 3 = .ok (.iconst 4, 1) := by decide +kernel
theorem dX6_readDyes_4 : decode cX6_readDyes 4 = .ok (.if_icmp .ge 48, 3) := by decide +kernel
theorem dX6_readDyes_7 : decode cX6_readDyes 7 = .ok (.aload_n 0, 1) := by decide +kernel
theorem dX6_readDyes_8 : decode cX6_readDyes 8 = .ok (.iload_n 1, 1) := by decide +kernel
theorem dX6_readDyes_9 : decode cX6_readDyes 9 = .ok (.invokevirtual 68, 3) := by decide +kernel
theorem dX6_readDyes_12 : decode cX6_readDyes 12 = .ok (.ifCond .ne 5, 3) := by decide +kernel
theorem dX6_readDyes_15 : decode cX6_readDyes 15 = .ok (.iconst 0, 1) := by decide +kernel
theorem dX6_readDyes_16 : decode cX6_readDyes 16 = .ok (.ireturn, 1) := by decide +kernel
theorem dX6_readDyes_17 : decode cX6_readDyes 17 = .ok (.aload_n 0, 1) := by decide +kernel
theorem dX6_readDyes_18 : decode cX6_readDyes 18 = .ok (.getfield 10, 3) := by decide +kernel
theorem dX6_readDyes_21 : decode cX6_readDyes 21 = .ok (.iload_n 1, 1) := by decide +kernel
theorem dX6_readDyes_22 : decode cX6_readDyes 22 = .ok (.iconst 1, 1) := by decide +kernel
theorem dX6_readDyes_23 : decode cX6_readDyes 23 = .ok (.iadd, 1) := by decide +kernel
theorem dX6_readDyes_24 : decode cX6_readDyes 24 = .ok (.putfield 71, 3) := by decide +kernel
theorem dX6_readDyes_27 : decode cX6_readDyes 27 = .ok (.iload_n 1, 1) := by decide +kernel
theorem dX6_readDyes_28 : decode cX6_readDyes 28 = .ok (.iconst 1, 1) := by decide +kernel
theorem dX6_readDyes_29 : decode cX6_readDyes 29 = .ok (.iadd, 1) := by decide +kernel
theorem dX6_readDyes_30 : decode cX6_readDyes 30 = .ok (.iconst 4, 1) := by decide +kernel
theorem dX6_readDyes_31 : decode cX6_readDyes 31 = .ok (.if_icmp .eq 21, 3) := by decide +kernel
theorem dX6_readDyes_34 : decode cX6_readDyes 34 = .ok (.aload_n 0, 1) := by decide +kernel
theorem dX6_readDyes_35 : decode cX6_readDyes 35 = .ok (.bipush 44, 2) := by decide +kernel
theorem dX6_readDyes_37 : decode cX6_readDyes 37 = .ok (.invokevirtual 24, 3) := by decide +kernel
theorem dX6_readDyes_40 : decode cX6_readDyes 40 = .ok (.ifCond .ne 6, 3) := by decide +kernel
theorem dX6_readDyes_43 : decode cX6_readDyes 43 = .ok (.goto 9, 3) := by decide +kernel
theorem dX6_readDyes_46 : decode cX6_readDyes 46 = .ok (.iinc 1 1, 3) := by decide +kernel
theorem dX6_readDyes_49 : decode cX6_readDyes 49 = .ok (.goto (-47), 3) := by decide +kernel
theorem dX6_readDyes_52 : decode cX6_readDyes 52 = .ok (.aload_n 0, 1) := by decide +kernel
theorem dX6_readDyes_53 : decode cX6_readDyes 53 = .ok (.bipush 59, 2) := by decide +kernel
theorem dX6_readDyes_55 : decode cX6_readDyes 55 = .ok (.invokevirtual 24, 3) := by decide +kernel
theorem dX6_readDyes_58 : decode cX6_readDyes 58 = .ok (.ireturn, 1) := by decide +kernel
theorem dX6_readDye_0 : decode cX6_readDye 0 = .ok (.iconst 0, 1) := by decide +kernel
theorem dX6_readDye_1 : decode cX6_readDye 1 = .ok (.istore_n 2, 1) := by decide +kernel
theorem dX6_readDye_2 : decode cX6_readDye 2 = .ok (.iload_n 2, 1) := by decide +kernel
theorem dX6_readDye_3 : decode cX6_readDye 3 = .ok (.iconst 3, 1) := by decide +kernel
theorem dX6_readDye_4 : decode cX6_readDye 4 = .ok (.if_icmp .ge 37, 3) := by decide +kernel
theorem dX6_readDye_7 : decode cX6_readDye 7 = .ok (.aload_n 0, 1) := by decide +kernel
theorem dX6_readDye_8 : decode cX6_readDye 8 = .ok (.iconst 0, 1) := by decide +kernel
theorem dX6_readDye_9 : decode cX6_readDye 9 = .ok (.iconst 3, 1) := by decide +kernel
theorem dX6_readDye_10 : decode cX6_readDye 10 = .ok (.invokevirtual 57, 3) := by decide +kernel
theorem dX6_readDye_13 : decode cX6_readDye 13 = .ok (.istore_n 3, 1) := by decide +kernel
theorem dX6_readDye_14 : decode cX6_readDye 14 = .ok (.iload_n 3, 1) := by decide +kernel
theorem dX6_readDye_15 : decode cX6_readDye 15 = .ok (.iconst (-1), 1) := by decide +kernel
theorem dX6_readDye_16 : decode cX6_readDye 16 = .ok (.if_icmp .ne 5, 3) := by decide +kernel
theorem dX6_readDye_19 : decode cX6_readDye 19 = .ok (.iconst 0, 1) := by decide +kernel
theorem dX6_readDye_20 : decode cX6_readDye 20 = .ok (.ireturn, 1) := by decide +kernel
theorem dX6_readDye_21 : decode cX6_readDye 21 = .ok (.aload_n 0, 1) := by decide +kernel
theorem dX6_readDye_22 : decode cX6_readDye 22 = .ok (.getfield 10, 3) := by decide +kernel
theorem dX6_readDye_25 : decode cX6_readDye 25 = .ok (.getfield 74, 3) := by decide +kernel
theorem dX6_readDye_28 : decode cX6_readDye 28 = .ok (.iload_n 1, 1) := by decide +kernel
theorem dX6_readDye_29 : decode cX6_readDye 29 = .ok (.iconst 3, 1) := by decide +kernel
theorem dX6_readDye_30 : decode cX6_readDye 30 = .ok (.imul, 1) := by decide +kernel
theorem dX6_readDye_31 : decode cX6_readDye 31 = .ok (.iload_n 2, 1) := by decide +kernel
theorem dX6_readDye_32 : decode cX6_readDye 32 = .ok (.iadd, 1) := by decide +kernel
theorem dX6_readDye_33 : decode cX6_readDye 33 = .ok (.iload_n 3, 1) := by decide +kernel
theorem dX6_readDye_34 : decode cX6_readDye 34 = .ok (.iastore, 1) := by decide +kernel
theorem dX6_readDye_35 : decode cX6_readDye 35 = .ok (.iinc 2 1, 3) := by decide +kernel
theorem dX6_readDye_38 : decode cX6_readDye 38 = .ok (.goto (-36), 3) := by decide +kernel
theorem dX6_readDye_41 : decode cX6_readDye 41 = .ok (.iconst 1, 1) := by decide +kernel
theorem dX6_readDye_42 : decode cX6_readDye 42 = .ok (.ireturn, 1) := by decide +kernel
theorem dX6_readStencils_0 : decode cX6_readStencils 0 = .ok (.iconst 0, 1) := by decide +kernel
theorem dX6_readStencils_1 : decode cX6_readStencils 1 = .ok (.istore_n 1, 1) := by decide +kernel
theorem dX6_readStencils_2 : decode cX6_readStencils 2 = .ok (.iload_n 1, 1) := by decide +kernel
theorem dX6_readStencils_3 : decode cX6_readStencils 3 = .ok (.iconst 3, 1) := by decide +kernel
theorem dX6_readStencils_4 : decode cX6_readStencils 4 = .ok (.if_icmp .ge 59, 3) := by decide +kernel
theorem dX6_readStencils_7 : decode cX6_readStencils 7 = .ok (.aload_n 0, 1) := by decide +kernel
theorem dX6_readStencils_8 : decode cX6_readStencils 8 = .ok (.invokevirtual 77, 3) := by decide +kernel
theorem dX6_readStencils_11 : decode cX6_readStencils 11 = .ok (.istore_n 2, 1) := by decide +kernel
theorem dX6_readStencils_12 : decode cX6_readStencils 12 = .ok (.iload_n 2, 1) := by decide +kernel
theorem dX6_readStencils_13 : decode cX6_readStencils 13 = .ok (.ifCond .ne 5, 3) := by decide +kernel
theorem dX6_readStencils_16 : decode cX6_readStencils 16 = .ok (.iconst 0, 1) := by decide +kernel
theorem dX6_readStencils_17 : decode cX6_readStencils 17 = .ok (.ireturn, 1) := by decide +kernel
theorem dX6_readStencils_18 : decode cX6_readStencils 18 = .ok (.aload_n 0, 1) := by decide +kernel
theorem dX6_readStencils_19 : decode cX6_readStencils 19 = .ok (.getfield 10, 3) := by decide +kernel
theorem dX6_readStencils_22 : decode cX6_readStencils 22 = .ok (.getfield 81, 3) := by decide +kernel
theorem dX6_readStencils_25 : decode cX6_readStencils 25 = .ok (.iload_n 1, 1) := by decide +kernel
theorem dX6_readStencils_26 : decode cX6_readStencils 26 = .ok (.iload_n 2, 1) := by decide +kernel
theorem dX6_readStencils_27 : decode cX6_readStencils 27 = .ok (.iastore, 1) := by decide +kernel
theorem dX6_readStencils_28 : decode cX6_readStencils 28 = .ok (.aload_n 0, 1) := by decide +kernel
theorem dX6_readStencils_29 : decode cX6_readStencils 29 = .ok (.getfield 10, 3) := by decide +kernel
theorem dX6_readStencils_32 : decode cX6_readStencils 32 = .ok (.iload_n 1, 1) := by decide +kernel
theorem dX6_readStencils_33 : decode cX6_readStencils 33 = .ok (.iconst 1, 1) := by decide +kernel
theorem dX6_readStencils_34 : decode cX6_readStencils 34 = .ok (.iadd, 1) := by decide +kernel
theorem dX6_readStencils_35 : decode cX6_readStencils 35 = .ok (.putfield 84, 3) := by decide +kernel
theorem dX6_readStencils_38 : decode cX6_readStencils 38 = .ok (.iload_n 1, 1) := by decide +kernel
theorem dX6_readStencils_39 : decode cX6_readStencils 39 = .ok (.iconst 1, 1) := by decide +kernel
theorem dX6_readStencils_40 : decode cX6_readStencils 40 = .ok (.iadd, 1) := by decide +kernel
theorem dX6_readStencils_41 : decode cX6_readStencils 41 = .ok (.iconst 3, 1) := by decide +kernel
theorem dX6_readStencils_42 : decode cX6_readStencils 42 = .ok (.if_icmp .eq 21, 3) := by decide +kernel
theorem dX6_readStencils_45 : decode cX6_readStencils 45 = .ok (.aload_n 0, 1) := by decide +kernel
theorem dX6_readStencils_46 : decode cX6_readStencils 46 = .ok (.bipush 44, 2) := by decide +kernel
theorem dX6_readStencils_48 : decode cX6_readStencils 48 = .ok (.invokevirtual 24, 3) := by decide +kernel
theorem dX6_readStencils_51 : decode cX6_readStencils 51 = .ok (.ifCond .ne 6, 3) := by decide +kernel
theorem dX6_readStencils_54 : decode cX6_readStencils 54 = .ok (.goto 9, 3) := by decide +kernel
theorem dX6_readStencils_57 : decode cX6_readStencils 57 = .ok (.iinc 1 1, 3) := by decide +kernel
theorem dX6_readStencils_60 : decode cX6_readStencils 60 = .ok (.goto (-58), 3) := by decide +kernel
theorem dX6_readStencils_63 : decode cX6_readStencils 63 = .ok (.aload_n 0, 1) := by decide +kernel
theorem dX6_readStencils_64 : decode cX6_readStencils 64 = .ok (.getfield 16, 3) := by decide +kernel
theorem dX6_readStencils_67 : decode cX6_readStencils 67 = .ok (.aload_n 0, 1) := by decide +kernel
theorem dX6_readStencils_68 : decode cX6_readStencils 68 = .ok (.getfield 20, 3) := by decide +kernel
theorem dX6_readStencils_71 : decode cX6_readStencils 71 = .ok (.invokevirtual 38, 3) := by decide +kernel
theorem dX6_readStencils_74 : decode cX6_readStencils 74 = .ok (.iconst (-1), 1) := by decide +kernel
theorem dX6_readStencils_75 : decode cX6_readStencils 75 = .ok (.if_icmp .ne 7, 3) := by decide +kernel
theorem dX6_readStencils_78 : decode cX6_readStencils 78 = .ok (.iconst 1, 1) := by decide +kernel
theorem dX6_readStencils_79 : decode cX6_readStencils 79 = .ok (.goto 4, 3) := by decide +kernel
theorem dX6_readStencils_82 : decode cX6_readStencils 82 = .ok (.iconst 0, 1) := by decide +kernel
theorem dX6_readStencils_83 : decode cX6_readStencils 83 = .ok (.ireturn, 1) := by decide +kernel
theorem dX6_readStencil_0 : decode cX6_readStencil 0 = .ok (.iconst 0, 1) := by decide +kernel
theorem dX6_readStencil_1 : decode cX6_readStencil 1 = .ok (.istore_n 1, 1) := by decide +kernel
theorem dX6_readStencil_2 : decode cX6_readStencil 2 = .ok (.iconst 0, 1) := by decide +kernel
theorem dX6_readStencil_3 : decode cX6_readStencil 3 = .ok (.istore_n 2, 1) := by decide +kernel
theorem dX6_readStencil_4 : decode cX6_readStencil 4 = .ok (.iconst 0, 1) := by decide +kernel
theorem dX6_readStencil_5 : decode cX6_readStencil 5 = .ok (.istore_n 3, 1) := by decide +kernel
theorem dX6_readStencil_6 : decode cX6_readStencil 6 = .ok (.iload_n 3, 1) := by decide +kernel
theorem dX6_readStencil_7 : decode cX6_readStencil 7 = .ok (.bipush 8, 2) := by decide +kernel
theorem dX6_readStencil_9 : decode cX6_readStencil 9 = .ok (.if_icmp .ge 46, 3) := by decide +kernel
theorem dX6_readStencil_12 : decode cX6_readStencil 12 = .ok (.aload_n 0, 1) := by decide +kernel
theorem dX6_readStencil_13 : decode cX6_readStencil 13 = .ok (.iload_n 2, 1) := by decide +kernel
theorem dX6_readStencil_14 : decode cX6_readStencil 14 = .ok (.aload_n 0, 1) := by decide +kernel
theorem dX6_readStencil_15 : decode cX6_readStencil 15 = .ok (.getfield 10, 3) := by decide +kernel
theorem dX6_readStencil_18 : decode cX6_readStencil 18 = .ok (.getfield 47, 3) := by decide +kernel
theorem dX6_readStencil_21 : decode cX6_readStencil 21 = .ok (.iconst 1, 1) := by decide +kernel
theorem dX6_readStencil_22 : decode cX6_readStencil 22 = .ok (.isub, 1) := by decide +kernel
theorem dX6_readStencil_23 : decode cX6_readStencil 23 = .ok (.invokevirtual 57, 3) := by decide +kernel
theorem dX6_readStencil_26 : decode cX6_readStencil 26 = .ok (.istore 4, 2) := by decide +kernel
theorem dX6_readStencil_28 : decode cX6_readStencil 28 = .ok (.iload 4, 2) := by decide +kernel
theorem dX6_readStencil_30 : decode cX6_readStencil 30 = .ok (.iconst (-1), 1) := by decide +kernel
theorem dX6_readStencil_31 : decode cX6_readStencil 31 = .ok (.if_icmp .ne 6, 3) := by decide +kernel
theorem dX6_readStencil_34 : decode cX6_readStencil 34 = .ok (.goto 21, 3) := by decide +kernel
theorem dX6_readStencil_37 : decode cX6_readStencil 37 = .ok (.iload_n 1, 1) := by decide +kernel
theorem dX6_readStencil_38 : decode cX6_readStencil 38 = .ok (.iconst 1, 1) := by decide +kernel
theorem dX6_readStencil_39 : decode cX6_readStencil 39 = .ok (.iload 4, 2) := by decide +kernel
theorem dX6_readStencil_41 : decode cX6_readStencil 41 = .ok (.ishl, 1) := by decide +kernel
theorem dX6_readStencil_42 : decode cX6_readStencil 42 = .ok (.ior, 1) := by decide +kernel
theorem dX6_readStencil_43 : decode cX6_readStencil 43 = .ok (.istore_n 1, 1) := by decide +kernel
theorem dX6_readStencil_44 : decode cX6_readStencil 44 = .ok (.iload 4, 2) := by decide +kernel
theorem dX6_readStencil_46 : decode cX6_readStencil 46 = .ok (.iconst 1, 1) := by decide +kernel
theorem dX6_readStencil_47 : decode cX6_readStencil 47 = .ok (.iadd, 1) := by decide +kernel
theorem dX6_readStencil_48 : decode cX6_readStencil 48 = .ok (.istore_n 2, 1) := by decide +kernel
theorem dX6_readStencil_49 : decode cX6_readStencil 49 = .ok (.iinc 3 1, 3) := by decide +kernel
theorem dX6_readStencil_52 : decode cX6_readStencil 52 = .ok (.goto (-46), 3) := by decide +kernel
theorem dX6_readStencil_55 : decode cX6_readStencil 55 = .ok (.iload_n 1, 1) := by decide +kernel
theorem dX6_readStencil_56 : decode cX6_readStencil 56 = .ok (.ireturn, 1) := by decide +kernel
theorem dX7_init_0 : decode cX7_init 0 = .ok (.aload_n 0, 1) := by decide +kernel
theorem dX7_init_1 : decode cX7_init 1 = .ok (.invokespecial 1, 3) := by decide +kernel
theorem dX7_init_4 : decode cX7_init 4 = .ok (.return_, 1) := by decide +kernel
theorem dX7_measure_0 : decode cX7_measure 0 = .ok (.aload_n 0, 1) := by decide +kernel
theorem dX7_measure_1 : decode cX7_measure 1 = .ok (.iconst 0, 1) := by decide +kernel
theorem dX7_measure_2 : decode cX7_measure 2 = .ok (.putfield 7, 3) := by decide +kernel
theorem dX7_measure_5 : decode cX7_measure 5 = .ok (.aload_n 0, 1) := by decide +kernel
theorem dX7_measure_6 : decode cX7_measure 6 = .ok (.iconst 1, 1) := by decide +kernel
theorem dX7_measure_7 : decode cX7_measure 7 = .ok (.putfield 13, 3) := by decide +kernel
theorem dX7_measure_10 : decode cX7_measure 10 = .ok (.iconst 0, 1) := by decide +kernel
theorem dX7_measure_11 : decode cX7_measure 11 = .ok (.istore 4, 2) := by decide +kernel
theorem dX7_measure_13 : decode cX7_measure 13 = .ok (.iload 4, 2) := by decide +kernel
theorem dX7_measure_15 : decode cX7_measure 15 = .ok (.aload_n 1, 1) := by decide +kernel
theorem dX7_measure_16 : decode cX7_measure 16 = .ok (.getfield 16, 3) := by decide +kernel
theorem dX7_measure_19 : decode cX7_measure 19 = .ok (.if_icmp .ge 65, 3) := by decide +kernel
theorem dX7_measure_22 : decode cX7_measure 22 = .ok (.aload_n 1, 1) := by decide +kernel
theorem dX7_measure_23 : decode cX7_measure 23 = .ok (.iload 4, 2) := by decide +kernel
theorem dX7_measure_25 : decode cX7_measure 25 = .ok (.aload_n 2, 1) := by decide +kernel
theorem dX7_measure_26 : decode cX7_measure 26 = .ok (.iload_n 3, 1) := by decide +kernel
theorem dX7_measure_27 : decode cX7_measure 27 = .ok (.invokestatic 21, 3) := by decide +kernel
theorem dX7_measure_30 : decode cX7_measure 30 = .ok (.istore 5, 2) := by decide +kernel
theorem dX7_measure_32 : decode cX7_measure 32 = .ok (.aload_n 1, 1) := by decide +kernel
theorem dX7_measure_33 : decode cX7_measure 33 = .ok (.iload 4, 2) := by decide +kernel
theorem dX7_measure_35 : decode cX7_measure 35 = .ok (.aload_n 2, 1) := by decide +kernel
theorem dX7_measure_36 : decode cX7_measure 36 = .ok (.iload_n 3, 1) := by decide +kernel
theorem dX7_measure_37 : decode cX7_measure 37 = .ok (.iload 5, 2) := by decide +kernel
theorem dX7_measure_39 : decode cX7_measure 39 = .ok (.invokestatic 25, 3) := by decide +kernel
theorem dX7_measure_42 : decode cX7_measure 42 = .ok (.istore 6, 2) := by decide +kernel
theorem dX7_measure_44 : decode cX7_measure 44 = .ok (.aload_n 0, 1) := by decide +kernel
theorem dX7_measure_45 : decode cX7_measure 45 = .ok (.aload_n 0, 1) := by decide +kernel
theorem dX7_measure_46 : decode cX7_measure 46 = .ok (.getfield 7, 3) := by decide +kernel
theorem dX7_measure_49 : decode cX7_measure 49 = .ok (.iload 6, 2) := by decide +kernel
theorem dX7_measure_51 : decode cX7_measure 51 = .ok (.invokestatic 29, 3) := by decide +kernel
theorem dX7_measure_54 : decode cX7_measure 54 = .ok (.putfield 7, 3) := by decide +kernel
theorem dX7_measure_57 : decode cX7_measure 57 = .ok (.aload_n 0, 1) := by decide +kernel
theorem dX7_measure_58 : decode cX7_measure 58 = .ok (.aload_n 0, 1) := by decide +kernel
theorem dX7_measure_59 : decode cX7_measure 59 = .ok (.getfield 13, 3) := by decide +kernel
theorem dX7_measure_62 : decode cX7_measure 62 = .ok (.iload 5, 2) := by decide +kernel
theorem dX7_measure_64 : decode cX7_measure 64 = .ok (.aload_n 0, 1) := by decide +kernel
theorem dX7_measure_65 : decode cX7_measure 65 = .ok (.getfield 13, 3) := by decide +kernel
theorem dX7_measure_68 : decode cX7_measure 68 = .ok (.invokestatic 35, 3) := by decide +kernel
theorem dX7_measure_71 : decode cX7_measure 71 = .ok (.idiv, 1) := by decide +kernel
theorem dX7_measure_72 : decode cX7_measure 72 = .ok (.iload 5, 2) := by decide +kernel
theorem dX7_measure_74 : decode cX7_measure 74 = .ok (.imul, 1) := by decide +kernel
theorem dX7_measure_75 : decode cX7_measure 75 = .ok (.putfield 13, 3) := by decide +kernel
theorem dX7_measure_78 : decode cX7_measure 78 = .ok (.iinc 4 1, 3) := by decide +kernel
theorem dX7_measure_81 : decode cX7_measure 81 = .ok (.goto (-68), 3) := by decide +kernel
theorem dX7_measure_84 : decode cX7_measure 84 = .ok (.return_, 1) := by decide +kernel
theorem dX7_lapOf_0 : decode cX7_lapOf 0 = .ok (.aload_n 0, 1) := by decide +kernel
theorem dX7_lapOf_1 : decode cX7_lapOf 1 = .ok (.getfield 40, 3) := by decide +kernel
theorem dX7_lapOf_4 : decode cX7_lapOf 4 = .ok (.iload_n 1, 1) := by decide +kernel
theorem dX7_lapOf_5 : decode cX7_lapOf 5 = .ok (.iaload, 1) := by decide +kernel
theorem dX7_lapOf_6 : decode cX7_lapOf 6 = .ok (.istore 4, 2) := by decide +kernel
theorem dX7_lapOf_8 : decode cX7_lapOf 8 = .ok (.aload_n 0, 1) := by decide +kernel
theorem dX7_lapOf_9 : decode cX7_lapOf 9 = .ok (.iload_n 1, 1) := by decide +kernel
theorem dX7_lapOf_10 : decode cX7_lapOf 10 = .ok (.iload 4, 2) := by decide +kernel
theorem dX7_lapOf_12 : decode cX7_lapOf 12 = .ok (.aload_n 2, 1) := by decide +kernel
theorem dX7_lapOf_13 : decode cX7_lapOf 13 = .ok (.iload_n 3, 1) := by decide +kernel
theorem dX7_lapOf_14 : decode cX7_lapOf 14 = .ok (.invokevirtual 44, 3) := by decide +kernel
theorem dX7_lapOf_17 : decode cX7_lapOf 17 = .ok (.istore 5, 2) := by decide +kernel
theorem dX7_lapOf_19 : decode cX7_lapOf 19 = .ok (.iconst 1, 1) := by decide +kernel
theorem dX7_lapOf_20 : decode cX7_lapOf 20 = .ok (.istore 6, 2) := by decide +kernel
theorem dX7_lapOf_22 : decode cX7_lapOf 22 = .ok (.iconst 1, 1) := by decide +kernel
theorem dX7_lapOf_23 : decode cX7_lapOf 23 = .ok (.istore 7, 2) := by decide +kernel
theorem dX7_lapOf_25 : decode cX7_lapOf 25 = .ok (.iconst 0, 1) := by decide +kernel
theorem dX7_lapOf_26 : decode cX7_lapOf 26 = .ok (.istore 8, 2) := by decide +kernel
theorem dX7_lapOf_28 : decode cX7_lapOf 28 = .ok (.iload 5, 2) := by decide +kernel
theorem dX7_lapOf_30 : decode cX7_lapOf 30 = .ok (.iload 4, 2) := by decide +kernel
theorem dX7_lapOf_32 : decode cX7_lapOf 32 = .ok (.if_icmp .eq 50, 3) := by decide +kernel
theorem dX7_lapOf_35 : decode cX7_lapOf 35 = .ok (.iload 8, 2) := by decide +kernel
theorem dX7_lapOf_37 : decode cX7_lapOf 37 = .ok (.ldc 48, 2) := by decide +kernel
theorem dX7_lapOf_39 : decode cX7_lapOf 39 = .ok (.if_icmp .ge 43, 3) := by decide +kernel
theorem dX7_lapOf_42 : decode cX7_lapOf 42 = .ok (.iload 6, 2) := by decide +kernel
theorem dX7_lapOf_44 : decode cX7_lapOf 44 = .ok (.iload 7, 2) := by decide +kernel
theorem dX7_lapOf_46 : decode cX7_lapOf 46 = .ok (.if_icmp .ne 16, 3) := by decide +kernel
theorem dX7_lapOf_49 : decode cX7_lapOf 49 = .ok (.iload 5, 2) := by decide +kernel
theorem dX7_lapOf_51 : decode cX7_lapOf 51 = .ok (.istore 4, 2) := by decide +kernel
theorem dX7_lapOf_53 : decode cX7_lapOf 53 = .ok (.iload 7, 2) := by decide +kernel
theorem dX7_lapOf_55 : decode cX7_lapOf 55 = .ok (.iconst 2, 1) := by decide +kernel
theorem dX7_lapOf_56 : decode cX7_lapOf 56 = .ok (.imul, 1) := by decide +kernel
theorem dX7_lapOf_57 : decode cX7_lapOf 57 = .ok (.istore 7, 2) := by decide +kernel
theorem dX7_lapOf_59 : decode cX7_lapOf 59 = .ok (.iconst 0, 1) := by decide +kernel
theorem dX7_lapOf_60 : decode cX7_lapOf 60 = .ok (.istore 6, 2) := by decide +kernel
theorem dX7_lapOf_62 : decode cX7_lapOf 62 = .ok (.aload_n 0, 1) := by decide +kernel
theorem dX7_lapOf_63 : decode cX7_lapOf 63 = .ok (.iload_n 1, 1) := by decide +kernel
theorem dX7_lapOf_64 : decode cX7_lapOf 64 = .ok (.iload 5, 2) := by decide +kernel
theorem dX7_lapOf_66 : decode cX7_lapOf 66 = .ok (.aload_n 2, 1) := by decide +kernel
theorem dX7_lapOf_67 : decode cX7_lapOf 67 = .ok (.iload_n 3, 1) := by decide +kernel
theorem dX7_lapOf_68 : decode cX7_lapOf 68 = .ok (.invokevirtual 44, 3) := by decide +kernel
theorem dX7_lapOf_71 : decode cX7_lapOf 71 = .ok (.istore 5, 2) := by decide +kernel
theorem dX7_lapOf_73 : decode cX7_lapOf 73 = .ok (.iinc 6 1, 3) := by decide +kernel
theorem dX7_lapOf_76 : decode cX7_lapOf 76 = .ok (.iinc 8 1, 3) := by decide +kernel
theorem dX7_lapOf_79 : decode cX7_lapOf 79 = .ok (.goto (-51), 3) := by decide +kernel
theorem dX7_lapOf_82 : decode cX7_lapOf 82 = .ok (.iload 6, 2) := by decide +kernel
theorem dX7_lapOf_84 : decode cX7_lapOf 84 = .ok (.ireturn, 1) := by decide +kernel
theorem dX7_leadOf_0 : decode cX7_leadOf 0 = .ok (.aload_n 0, 1) := by decide +kernel
theorem dX7_leadOf_1 : decode cX7_leadOf 1 = .ok (.getfield 40, 3) := by decide +kernel
theorem dX7_leadOf_4 : decode cX7_leadOf 4 = .ok (.iload_n 1, 1) := by decide +kernel
theorem dX7_leadOf_5 : decode cX7_leadOf 5 = .ok (.iaload, 1) := by decide +kernel
theorem dX7_leadOf_6 : decode cX7_leadOf 6 = .ok (.istore 5, 2) := by decide +kernel
theorem dX7_leadOf_8 : decode cX7_leadOf 8 = .ok (.iload 5, 2) := by decide +kernel
theorem dX7_leadOf_10 : decode cX7_leadOf 10 = .ok (.istore 6, 2) := by decide +kernel
theorem dX7_leadOf_12 : decode cX7_leadOf 12 = .ok (.iconst 0, 1) := by decide +kernel
theorem dX7_leadOf_13 : decode cX7_leadOf 13 = .ok (.istore 7, 2) := by decide +kernel
theorem dX7_leadOf_15 : decode cX7_leadOf 15 = .ok (.iload 7, 2) := by decide +kernel
theorem dX7_leadOf_17 : decode cX7_leadOf 17 = .ok (.iload 4, 2) := by decide +kernel
theorem dX7_leadOf_19 : decode cX7_leadOf 19 = .ok (.if_icmp .ge 20, 3) := by decide +kernel
theorem dX7_leadOf_22 : decode cX7_leadOf 22 = .ok (.aload_n 0, 1) := by decide +kernel
theorem dX7_leadOf_23 : decode cX7_leadOf 23 = .ok (.iload_n 1, 1) := by decide +kernel
theorem dX7_leadOf_24 : decode cX7_leadOf 24 = .ok (.iload 6, 2) := by decide +kernel
theorem dX7_leadOf_26 : decode cX7_leadOf 26 = .ok (.aload_n 2, 1) := by decide +kernel
theorem dX7_leadOf_27 : decode cX7_leadOf 27 = .ok (.iload_n 3, 1) := by decide +kernel
theorem dX7_leadOf_28 : decode cX7_leadOf 28 = .ok (.invokevirtual 44, 3) := by decide +kernel
theorem dX7_leadOf_31 : decode cX7_leadOf 31 = .ok (.istore 6, 2) := by decide +kernel
theorem dX7_leadOf_33 : decode cX7_leadOf 33 = .ok (.iinc 7 1, 3) := by decide +kernel
theorem dX7_leadOf_36 : decode cX7_leadOf 36 = .ok (.goto (-21), 3) := by decide +kernel
theorem dX7_leadOf_39 : decode cX7_leadOf 39 = .ok (.iconst 0, 1) := by decide +kernel
theorem dX7_leadOf_40 : decode cX7_leadOf 40 = .ok (.istore 7, 2) := by decide +kernel
theorem dX7_leadOf_42 : decode cX7_leadOf 42 = .ok (.iconst 0, 1) := by decide +kernel
theorem dX7_leadOf_43 : decode cX7_leadOf 43 = .ok (.istore 8, 2) := by decide +kernel
theorem dX7_leadOf_45 : decode cX7_leadOf 45 = .ok (.iload 6, 2) := by decide +kernel
theorem dX7_leadOf_47 : decode cX7_leadOf 47 = .ok (.iload 5, 2) := by decide +kernel
theorem dX7_leadOf_49 : decode cX7_leadOf 49 = .ok (.if_icmp .eq 41, 3) := by decide +kernel
theorem dX7_leadOf_52 : decode cX7_leadOf 52 = .ok (.iload 8, 2) := by decide +kernel
theorem dX7_leadOf_54 : decode cX7_leadOf 54 = .ok (.ldc 48, 2) := by decide +kernel
theorem dX7_leadOf_56 : decode cX7_leadOf 56 = .ok (.if_icmp .ge 34, 3) := by decide +kernel
theorem dX7_leadOf_59 : decode cX7_leadOf 59 = .ok (.aload_n 0, 1) := by decide +kernel
theorem dX7_leadOf_60 : decode cX7_leadOf 60 = .ok (.iload_n 1, 1) := by decide +kernel
theorem dX7_leadOf_61 : decode cX7_leadOf 61 = .ok (.iload 6, 2) := by decide +kernel
theorem dX7_leadOf_63 : decode cX7_leadOf 63 = .ok (.aload_n 2, 1) := by decide +kernel
theorem dX7_leadOf_64 : decode cX7_leadOf 64 = .ok (.iload_n 3, 1) := by decide +kernel
theorem dX7_leadOf_65 : decode cX7_leadOf 65 = .ok (.invokevirtual 44, 3) := by decide +kernel
theorem dX7_leadOf_68 : decode cX7_leadOf 68 = .ok (.istore 6, 2) := by decide +kernel
theorem dX7_leadOf_70 : decode cX7_leadOf 70 = .ok (.aload_n 0, 1) := by decide +kernel
theorem dX7_leadOf_71 : decode cX7_leadOf 71 = .ok (.iload_n 1, 1) := by decide +kernel
theorem dX7_leadOf_72 : decode cX7_leadOf 72 = .ok (.iload 5, 2) := by decide +kernel
theorem dX7_leadOf_74 : decode cX7_leadOf 74 = .ok (.aload_n 2, 1) := by decide +kernel
theorem dX7_leadOf_75 : decode cX7_leadOf 75 = .ok (.iload_n 3, 1) := by decide +kernel
theorem dX7_leadOf_76 : decode cX7_leadOf 76 = .ok (.invokevirtual 44, 3) := by decide +kernel
theorem dX7_leadOf_79 : decode cX7_leadOf 79 = .ok (.istore 5, 2) := by decide +kernel
theorem dX7_leadOf_81 : decode cX7_leadOf 81 = .ok (.iinc 7 1, 3) := by decide +kernel
theorem dX7_leadOf_84 : decode cX7_leadOf 84 = .ok (.iinc 8 1, 3) := by decide +kernel
theorem dX7_leadOf_87 : decode cX7_leadOf 87 = .ok (.goto (-42), 3) := by decide +kernel
theorem dX7_leadOf_90 : decode cX7_leadOf 90 = .ok (.iload 7, 2) := by decide +kernel
theorem dX7_leadOf_92 : decode cX7_leadOf 92 = .ok (.ireturn, 1) := by decide +kernel
theorem dX8_init_0 : decode cX8_init 0 = .ok (.aload_n 0, 1) := by decide +kernel
theorem dX8_init_1 : decode cX8_init 1 = .ok (.invokespecial 3, 3) := by decide +kernel
theorem dX8_init_4 : decode cX8_init 4 = .ok (.aload_n 0, 1) := by decide +kernel
theorem dX8_init_5 : decode cX8_init 5 = .ok (.iconst (-1), 1) := by decide +kernel
theorem dX8_init_6 : decode cX8_init 6 = .ok (.putfield 11, 3) := by decide +kernel
theorem dX8_init_9 : decode cX8_init 9 = .ok (.aload_n 0, 1) := by decide +kernel
theorem dX8_init_10 : decode cX8_init 10 = .ok (.bipush 24, 2) := by decide +kernel
theorem dX8_init_12 : decode cX8_init 12 = .ok (.newarray .long, 2) := by decide +kernel
theorem dX8_init_14 : decode cX8_init 14 = .ok (.putfield 15, 3) := by decide +kernel
theorem dX8_init_17 : decode cX8_init 17 = .ok (.return_, 1) := by decide +kernel
theorem dX8_isLane_0 : decode cX8_isLane 0 = .ok (.iload_n 0, 1) := by decide +kernel
theorem dX8_isLane_1 : decode cX8_isLane 1 = .ok (.ifCond .lt 12, 3) := by decide +kernel
theorem dX8_isLane_4 : decode cX8_isLane 4 = .ok (.iload_n 0, 1) := by decide +kernel
theorem dX8_isLane_5 : decode cX8_isLane 5 = .ok (.iconst 3, 1) := by decide +kernel
theorem dX8_isLane_6 : decode cX8_isLane 6 = .ok (.if_icmp .gt 7, 3) := by decide +kernel
theorem dX8_isLane_9 : decode cX8_isLane 9 = .ok (.iconst 1, 1) := by decide +kernel
theorem dX8_isLane_10 : decode cX8_isLane 10 = .ok (.goto 4, 3) := by decide +kernel
theorem dX8_isLane_13 : decode cX8_isLane 13 = .ok (.iconst 0, 1) := by decide +kernel
theorem dX8_isLane_14 : decode cX8_isLane 14 = .ok (.ireturn, 1) := by decide +kernel
theorem dX8_isNothing_0 : decode cX8_isNothing 0 = .ok (.aload_n 0, 1) := by decide +kernel
theorem dX8_isNothing_1 : decode cX8_isNothing 1 = .ok (.getfield 11, 3) := by decide +kernel
theorem dX8_isNothing_4 : decode cX8_isNothing 4 = .ok (.iconst (-1), 1) := by decide +kernel
theorem dX8_isNothing_5 : decode cX8_isNothing 5 = .ok (.if_icmp .ne 7, 3) := by decide +kernel
theorem dX8_isNothing_8 : decode cX8_isNothing 8 = .ok (.iconst 1, 1) := by decide +kernel
theorem dX8_isNothing_9 : decode cX8_isNothing 9 = .ok (.goto 4, 3) := by decide +kernel
theorem dX8_isNothing_12 : decode cX8_isNothing 12 = .ok (.iconst 0, 1) := by decide +kernel
theorem dX8_isNothing_13 : decode cX8_isNothing 13 = .ok (.ireturn, 1) := by decide +kernel
theorem dX8_begin_0 : decode cX8_begin 0 = .ok (.aload_n 0, 1) := by decide +kernel
theorem dX8_begin_1 : decode cX8_begin 1 = .ok (.iload_n 1, 1) := by decide +kernel
theorem dX8_begin_2 : decode cX8_begin 2 = .ok (.putfield 11, 3) := by decide +kernel
theorem dX8_begin_5 : decode cX8_begin 5 = .ok (.aload_n 0, 1) := by decide +kernel
theorem dX8_begin_6 : decode cX8_begin 6 = .ok (.iload_n 2, 1) := by decide +kernel
theorem dX8_begin_7 : decode cX8_begin 7 = .ok (.putfield 19, 3) := by decide +kernel
theorem dX8_begin_10 : decode cX8_begin 10 = .ok (.iconst 0, 1) := by decide +kernel
theorem dX8_begin_11 : decode cX8_begin 11 = .ok (.istore_n 3, 1) := by decide +kernel
theorem dX8_begin_12 : decode cX8_begin 12 = .ok (.iload_n 3, 1) := by decide +kernel
theorem dX8_begin_13 : decode cX8_begin 13 = .ok (.bipush 24, 2) := by decide +kernel
theorem dX8_begin_15 : decode cX8_begin 15 = .ok (.if_icmp .ge 16, 3) := by decide +kernel
theorem dX8_begin_18 : decode cX8_begin 18 = .ok (.aload_n 0, 1) := by decide +kernel
theorem dX8_begin_19 : decode cX8_begin 19 = .ok (.getfield 15, 3) := by decide +kernel
theorem dX8_begin_22 : decode cX8_begin 22 = .ok (.iload_n 3, 1) := by decide +kernel
theorem dX8_begin_23 : decode cX8_begin 23 = .ok (.lconst 0, 1) := by decide +kernel
theorem dX8_begin_24 : decode cX8_begin 24 = .ok (.lastore, 1) := by decide +kernel
theorem dX8_begin_25 : decode cX8_begin 25 = .ok (.iinc 3 1, 3) := by decide +kernel
theorem dX8_begin_28 : decode cX8_begin 28 = .ok (.goto (-16), 3) := by decide +kernel
theorem dX8_begin_31 : decode cX8_begin 31 = .ok (.return_, 1) := by decide +kernel
theorem dX8_end_0 : decode cX8_end 0 = .ok (.aload_n 0, 1) := by decide +kernel
theorem dX8_end_1 : decode cX8_end 1 = .ok (.iconst (-1), 1) := by decide +kernel
theorem dX8_end_2 : decode cX8_end 2 = .ok (.putfield 11, 3) := by decide +kernel
theorem dX8_end_5 : decode cX8_end 5 = .ok (.aload_n 0, 1) := by decide +kernel
theorem dX8_end_6 : decode cX8_end 6 = .ok (.getfield 19, 3) := by decide +kernel
theorem dX8_end_9 : decode cX8_end 9 = .ok (.ireturn, 1) := by decide +kernel
theorem dX8_holds_0 : decode cX8_holds 0 = .ok (.iload_n 1, 1) := by decide +kernel
theorem dX8_holds_1 : decode cX8_holds 1 = .ok (.ifCond .lt 29, 3) := by decide +kernel
theorem dX8_holds_4 : decode cX8_holds 4 = .ok (.iload_n 2, 1) := by decide +kernel
theorem dX8_holds_5 : decode cX8_holds 5 = .ok (.ifCond .lt 25, 3) := by decide +kernel
theorem dX8_holds_8 : decode cX8_holds 8 = .ok (.iload_n 2, 1) := by decide +kernel
theorem dX8_holds_9 : decode cX8_holds 9 = .ok (.aload_n 0, 1) := by decide +kernel
theorem dX8_holds_10 : decode cX8_holds 10 = .ok (.getfield 19, 3) := by decide +kernel
theorem dX8_holds_13 : decode cX8_holds 13 = .ok (.if_icmp .gt 17, 3) := by decide +kernel
theorem dX8_holds_16 : decode cX8_holds 16 = .ok (.iload_n 1, 1) := by decide +kernel
theorem dX8_holds_17 : decode cX8_holds 17 = .ok (.aload_n 0, 1) := by decide +kernel
theorem dX8_holds_18 : decode cX8_holds 18 = .ok (.getfield 19, 3) := by decide +kernel
theorem dX8_holds_21 : decode cX8_holds 21 = .ok (.iload_n 2, 1) := by decide +kernel
theorem dX8_holds_22 : decode cX8_holds 22 = .ok (.isub, 1) := by decide +kernel
theorem dX8_holds_23 : decode cX8_holds 23 = .ok (.if_icmp .gt 7, 3) := by decide +kernel
theorem dX8_holds_26 : decode cX8_holds 26 = .ok (.iconst 1, 1) := by decide +kernel
theorem dX8_holds_27 : decode cX8_holds 27 = .ok (.goto 4, 3) := by decide +kernel
theorem dX8_holds_30 : decode cX8_holds 30 = .ok (.iconst 0, 1) := by decide +kernel
theorem dX8_holds_31 : decode cX8_holds 31 = .ok (.ireturn, 1) := by decide +kernel
theorem dX8_refusal_0 : decode cX8_refusal 0 = .ok (.aload_n 0, 1) := by decide +kernel
theorem dX8_refusal_1 : decode cX8_refusal 1 = .ok (.invokevirtual 22, 3) := by decide +kernel
theorem dX8_refusal_4 : decode cX8_refusal 4 = .ok (.ifCond .eq 6, 3) := by decide +kernel
theorem dX8_refusal_7 : decode cX8_refusal 7 = .ok (.bipush (-11), 2) := by decide +kernel
theorem dX8_refusal_9 : decode cX8_refusal 9 = .ok (.ireturn, 1) := by decide +kernel
theorem dX8_refusal_10 : decode cX8_refusal 10 = .ok (.aload_n 0, 1) := by decide +kernel
theorem dX8_refusal_11 : decode cX8_refusal 11 = .ok (.getfield 11, 3) := by decide +kernel
theorem dX8_refusal_14 : decode cX8_refusal 14 = .ok (.iload_n 1, 1) := by decide +kernel
theorem dX8_refusal_15 : decode cX8_refusal 15 = .ok (.if_icmp .eq 6, 3) := by decide +kernel
theorem dX8_refusal_18 : decode cX8_refusal 18 = .ok (.bipush (-12), 2) := by decide +kernel
theorem dX8_refusal_20 : decode cX8_refusal 20 = .ok (.ireturn, 1) := by decide +kernel
theorem dX8_refusal_21 : decode cX8_refusal 21 = .ok (.aload_n 0, 1) := by decide +kernel
theorem dX8_refusal_22 : decode cX8_refusal 22 = .ok (.iload_n 2, 1) := by decide +kernel
theorem dX8_refusal_23 : decode cX8_refusal 23 = .ok (.iload_n 3, 1) := by decide +kernel
theorem dX8_refusal_24 : decode cX8_refusal 24 = .ok (.invokevirtual 26, 3) := by decide +kernel
theorem dX8_refusal_27 : decode cX8_refusal 27 = .ok (.ifCond .eq 7, 3) := by decide +kernel
theorem dX8_refusal_30 : decode cX8_refusal 30 = .ok (.iconst 0, 1) := by decide +kernel
theorem dX8_refusal_31 : decode cX8_refusal 31 = .ok (.goto 5, 3) := by decide +kernel
theorem dX8_refusal_34 : decode cX8_refusal 34 = .ok (.bipush (-13), 2) := by decide +kernel
theorem dX8_refusal_36 : decode cX8_refusal 36 = .ok (.ireturn, 1) := by decide +kernel
theorem dX8_put_0 : decode cX8_put 0 = .ok (.aload_n 0, 1) := by decide +kernel
theorem dX8_put_1 : decode cX8_put 1 = .ok (.getfield 11, 3) := by decide +kernel
theorem dX8_put_4 : decode cX8_put 4 = .ok (.tableswitch 66 0 2 #[28, 41, 54], 28) := by decide +kernel
theorem dX8_put_32 : decode cX8_put 32 = .ok (.aload_n 0, 1) := by decide +kernel
theorem dX8_put_33 : decode cX8_put 33 = .ok (.getfield 15, 3) := by decide +kernel
theorem dX8_put_36 : decode cX8_put 36 = .ok (.iload_n 1, 1) := by decide +kernel
theorem dX8_put_37 : decode cX8_put 37 = .ok (.lload_n 2, 1) := by decide +kernel
theorem dX8_put_38 : decode cX8_put 38 = .ok (.l2i, 1) := by decide +kernel
theorem dX8_put_39 : decode cX8_put 39 = .ok (.i2b, 1) := by decide +kernel
theorem dX8_put_40 : decode cX8_put 40 = .ok (.i2l, 1) := by decide +kernel
theorem dX8_put_41 : decode cX8_put 41 = .ok (.lastore, 1) := by decide +kernel
theorem dX8_put_42 : decode cX8_put 42 = .ok (.goto 35, 3) := by decide +kernel
theorem dX8_put_45 : decode cX8_put 45 = .ok (.aload_n 0, 1) := by decide +kernel
theorem dX8_put_46 : decode cX8_put 46 = .ok (.getfield 15, 3) := by decide +kernel
theorem dX8_put_49 : decode cX8_put 49 = .ok (.iload_n 1, 1) := by decide +kernel
theorem dX8_put_50 : decode cX8_put 50 = .ok (.lload_n 2, 1) := by decide +kernel
theorem dX8_put_51 : decode cX8_put 51 = .ok (.l2i, 1) := by decide +kernel
theorem dX8_put_52 : decode cX8_put 52 = .ok (.i2s, 1) := by decide +kernel
theorem dX8_put_53 : decode cX8_put 53 = .ok (.i2l, 1) := by decide +kernel
theorem dX8_put_54 : decode cX8_put 54 = .ok (.lastore, 1) := by decide +kernel
theorem dX8_put_55 : decode cX8_put 55 = .ok (.goto 22, 3) := by decide +kernel
theorem dX8_put_58 : decode cX8_put 58 = .ok (.aload_n 0, 1) := by decide +kernel
theorem dX8_put_59 : decode cX8_put 59 = .ok (.getfield 15, 3) := by decide +kernel
theorem dX8_put_62 : decode cX8_put 62 = .ok (.iload_n 1, 1) := by decide +kernel
theorem dX8_put_63 : decode cX8_put 63 = .ok (.lload_n 2, 1) := by decide +kernel
theorem dX8_put_64 : decode cX8_put 64 = .ok (.l2i, 1) := by decide +kernel
theorem dX8_put_65 : decode cX8_put 65 = .ok (.i2l, 1) := by decide +kernel
theorem dX8_put_66 : decode cX8_put 66 = .ok (.lastore, 1) := by decide +kernel
theorem dX8_put_67 : decode cX8_put 67 = .ok (.goto 10, 3) := by decide +kernel
theorem dX8_put_70 : decode cX8_put 70 = .ok (.aload_n 0, 1) := by decide +kernel
theorem dX8_put_71 : decode cX8_put 71 = .ok (.getfield 15, 3) := by decide +kernel
theorem dX8_put_74 : decode cX8_put 74 = .ok (.iload_n 1, 1) := by decide +kernel
theorem dX8_put_75 : decode cX8_put 75 = .ok (.lload_n 2, 1) := by decide +kernel
theorem dX8_put_76 : decode cX8_put 76 = .ok (.lastore, 1) := by decide +kernel
theorem dX8_put_77 : decode cX8_put 77 = .ok (.aload_n 0, 1) := by decide +kernel
theorem dX8_put_78 : decode cX8_put 78 = .ok (.getfield 15, 3) := by decide +kernel
theorem dX8_put_81 : decode cX8_put 81 = .ok (.iload_n 1, 1) := by decide +kernel
theorem dX8_put_82 : decode cX8_put 82 = .ok (.laload, 1) := by decide +kernel
theorem dX8_put_83 : decode cX8_put 83 = .ok (.lreturn, 1) := by decide +kernel
theorem dX9_isColour_0 : decode cX9_isColour 0 = .ok (.iload_n 0, 1) := by decide +kernel
theorem dX9_isColour_1 : decode cX9_isColour 1 = .ok (.ifCond .lt 12, 3) := by decide +kernel
theorem dX9_isColour_4 : decode cX9_isColour 4 = .ok (.iload_n 0, 1) := by decide +kernel
theorem dX9_isColour_5 : decode cX9_isColour 5 = .ok (.iconst 3, 1) := by decide +kernel
theorem dX9_isColour_6 : decode cX9_isColour 6 = .ok (.if_icmp .ge 7, 3) := by decide +kernel
theorem dX9_isColour_9 : decode cX9_isColour 9 = .ok (.iconst 1, 1) := by decide +kernel
theorem dX9_isColour_10 : decode cX9_isColour 10 = .ok (.goto 4, 3) := by decide +kernel
theorem dX9_isColour_13 : decode cX9_isColour 13 = .ok (.iconst 0, 1) := by decide +kernel
theorem dX9_isColour_14 : decode cX9_isColour 14 = .ok (.ireturn, 1) := by decide +kernel
theorem dX9_isAmount_0 : decode cX9_isAmount 0 = .ok (.iload_n 0, 1) := by decide +kernel
theorem dX9_isAmount_1 : decode cX9_isAmount 1 = .ok (.ifCond .lt 13, 3) := by decide +kernel
theorem dX9_isAmount_4 : decode cX9_isAmount 4 = .ok (.iload_n 0, 1) := by decide +kernel
theorem dX9_isAmount_5 : decode cX9_isAmount 5 = .ok (.bipush 9, 2) := by decide +kernel
theorem dX9_isAmount_7 : decode cX9_isAmount 7 = .ok (.if_icmp .gt 7, 3) := by decide +kernel
theorem dX9_isAmount_10 : decode cX9_isAmount 10 = .ok (.iconst 1, 1) := by decide +kernel
theorem dX9_isAmount_11 : decode cX9_isAmount 11 = .ok (.goto 4, 3) := by decide +kernel
theorem dX9_isAmount_14 : decode cX9_isAmount 14 = .ok (.iconst 0, 1) := by decide +kernel
theorem dX9_isAmount_15 : decode cX9_isAmount 15 = .ok (.ireturn, 1) := by decide +kernel
theorem dX9_ofShade_0 : decode cX9_ofShade 0 = .ok (.iload_n 0, 1) := by decide +kernel
theorem dX9_ofShade_1 : decode cX9_ofShade 1 = .ok (.iload_n 1, 1) := by decide +kernel
theorem dX9_ofShade_2 : decode cX9_ofShade 2 = .ok (.iconst 4, 1) := by decide +kernel
theorem dX9_ofShade_3 : decode cX9_ofShade 3 = .ok (.ishl, 1) := by decide +kernel
theorem dX9_ofShade_4 : decode cX9_ofShade 4 = .ok (.ior, 1) := by decide +kernel
theorem dX9_ofShade_5 : decode cX9_ofShade 5 = .ok (.iload_n 2, 1) := by decide +kernel
theorem dX9_ofShade_6 : decode cX9_ofShade 6 = .ok (.bipush 8, 2) := by decide +kernel
theorem dX9_ofShade_8 : decode cX9_ofShade 8 = .ok (.ishl, 1) := by decide +kernel
theorem dX9_ofShade_9 : decode cX9_ofShade 9 = .ok (.ior, 1) := by decide +kernel
theorem dX9_ofShade_10 : decode cX9_ofShade 10 = .ok (.ireturn, 1) := by decide +kernel
theorem dX9_amountOf_0 : decode cX9_amountOf 0 = .ok (.iload_n 0, 1) := by decide +kernel
theorem dX9_amountOf_1 : decode cX9_amountOf 1 = .ok (.iload_n 1, 1) := by decide +kernel
theorem dX9_amountOf_2 : decode cX9_amountOf 2 = .ok (.iconst 4, 1) := by decide +kernel
theorem dX9_amountOf_3 : decode cX9_amountOf 3 = .ok (.imul, 1) := by decide +kernel
theorem dX9_amountOf_4 : decode cX9_amountOf 4 = .ok (.ishr, 1) := by decide +kernel
theorem dX9_amountOf_5 : decode cX9_amountOf 5 = .ok (.bipush 15, 2) := by decide +kernel
theorem dX9_amountOf_7 : decode cX9_amountOf 7 = .ok (.iand, 1) := by decide +kernel
theorem dX9_amountOf_8 : decode cX9_amountOf 8 = .ok (.ireturn, 1) := by decide +kernel
theorem dX9_withMore_0 : decode cX9_withMore 0 = .ok (.iload_n 0, 1) := by decide +kernel
theorem dX9_withMore_1 : decode cX9_withMore 1 = .ok (.iload_n 2, 1) := by decide +kernel
theorem dX9_withMore_2 : decode cX9_withMore 2 = .ok (.iload_n 1, 1) := by decide +kernel
theorem dX9_withMore_3 : decode cX9_withMore 3 = .ok (.iconst 4, 1) := by decide +kernel
theorem dX9_withMore_4 : decode cX9_withMore 4 = .ok (.imul, 1) := by decide +kernel
theorem dX9_withMore_5 : decode cX9_withMore 5 = .ok (.ishl, 1) := by decide +kernel
theorem dX9_withMore_6 : decode cX9_withMore 6 = .ok (.iadd, 1) := by decide +kernel
theorem dX9_withMore_7 : decode cX9_withMore 7 = .ok (.ireturn, 1) := by decide +kernel
theorem dX9_waxIn_0 : decode cX9_waxIn 0 = .ok (.iload_n 0, 1) := by decide +kernel
theorem dX9_waxIn_1 : decode cX9_waxIn 1 = .ok (.bipush 12, 2) := by decide +kernel
theorem dX9_waxIn_3 : decode cX9_waxIn 3 = .ok (.ishr, 1) := by decide +kernel
theorem dX9_waxIn_4 : decode cX9_waxIn 4 = .ok (.ireturn, 1) := by decide +kernel
theorem dX9_withWax_0 : decode cX9_withWax 0 = .ok (.iload_n 0, 1) := by decide +kernel
theorem dX9_withWax_1 : decode cX9_withWax 1 = .ok (.sipush 4095, 3) := by decide +kernel
theorem dX9_withWax_4 : decode cX9_withWax 4 = .ok (.iand, 1) := by decide +kernel
theorem dX9_withWax_5 : decode cX9_withWax 5 = .ok (.iload_n 1, 1) := by decide +kernel
theorem dX9_withWax_6 : decode cX9_withWax 6 = .ok (.bipush 12, 2) := by decide +kernel
theorem dX9_withWax_8 : decode cX9_withWax 8 = .ok (.ishl, 1) := by decide +kernel
theorem dX9_withWax_9 : decode cX9_withWax 9 = .ok (.ior, 1) := by decide +kernel
theorem dX9_withWax_10 : decode cX9_withWax 10 = .ok (.ireturn, 1) := by decide +kernel
theorem dX9_hueOf_0 : decode cX9_hueOf 0 = .ok (.iload_n 0, 1) := by decide +kernel
theorem dX9_hueOf_1 : decode cX9_hueOf 1 = .ok (.iconst 0, 1) := by decide +kernel
theorem dX9_hueOf_2 : decode cX9_hueOf 2 = .ok (.invokestatic 9, 3) := by decide +kernel
theorem dX9_hueOf_5 : decode cX9_hueOf 5 = .ok (.iload_n 0, 1) := by decide +kernel
theorem dX9_hueOf_6 : decode cX9_hueOf 6 = .ok (.iconst 1, 1) := by decide +kernel
theorem dX9_hueOf_7 : decode cX9_hueOf 7 = .ok (.invokestatic 9, 3) := by decide +kernel
theorem dX9_hueOf_10 : decode cX9_hueOf 10 = .ok (.iload_n 0, 1) := by decide +kernel
theorem dX9_hueOf_11 : decode cX9_hueOf 11 = .ok (.iconst 2, 1) := by decide +kernel
theorem dX9_hueOf_12 : decode cX9_hueOf 12 = .ok (.invokestatic 9, 3) := by decide +kernel
theorem dX9_hueOf_15 : decode cX9_hueOf 15 = .ok (.invokestatic 13, 3) := by decide +kernel
theorem dX9_hueOf_18 : decode cX9_hueOf 18 = .ok (.invokestatic 13, 3) := by decide +kernel
theorem dX9_hueOf_21 : decode cX9_hueOf 21 = .ok (.istore_n 1, 1) := by decide +kernel
theorem dX9_hueOf_22 : decode cX9_hueOf 22 = .ok (.iconst 0, 1) := by decide +kernel
theorem dX9_hueOf_23 : decode cX9_hueOf 23 = .ok (.istore_n 2, 1) := by decide +kernel
theorem dX9_hueOf_24 : decode cX9_hueOf 24 = .ok (.iconst 0, 1) := by decide +kernel
theorem dX9_hueOf_25 : decode cX9_hueOf 25 = .ok (.istore_n 3, 1) := by decide +kernel
theorem dX9_hueOf_26 : decode cX9_hueOf 26 = .ok (.iload_n 3, 1) := by decide +kernel
theorem dX9_hueOf_27 : decode cX9_hueOf 27 = .ok (.iconst 3, 1) := by decide +kernel
theorem dX9_hueOf_28 : decode cX9_hueOf 28 = .ok (.if_icmp .ge 35, 3) := by decide +kernel
theorem dX9_hueOf_31 : decode cX9_hueOf 31 = .ok (.iload_n 0, 1) := by decide +kernel
theorem dX9_hueOf_32 : decode cX9_hueOf 32 = .ok (.iload_n 3, 1) := by decide +kernel
theorem dX9_hueOf_33 : decode cX9_hueOf 33 = .ok (.invokestatic 9, 3) := by decide +kernel
theorem dX9_hueOf_36 : decode cX9_hueOf 36 = .ok (.istore 4, 2) := by decide +kernel
theorem dX9_hueOf_38 : decode cX9_hueOf 38 = .ok (.iload 4, 2) := by decide +kernel
theorem dX9_hueOf_40 : decode cX9_hueOf 40 = .ok (.ifCond .le 17, 3) := by decide +kernel
theorem dX9_hueOf_43 : decode cX9_hueOf 43 = .ok (.iconst 2, 1) := by decide +kernel
theorem dX9_hueOf_44 : decode cX9_hueOf 44 = .ok (.iload 4, 2) := by decide +kernel
theorem dX9_hueOf_46 : decode cX9_hueOf 46 = .ok (.imul, 1) := by decide +kernel
theorem dX9_hueOf_47 : decode cX9_hueOf 47 = .ok (.iload_n 1, 1) := by decide +kernel
theorem dX9_hueOf_48 : decode cX9_hueOf 48 = .ok (.if_icmp .lt 9, 3) := by decide +kernel
theorem dX9_hueOf_51 : decode cX9_hueOf 51 = .ok (.iload_n 2, 1) := by decide +kernel
theorem dX9_hueOf_52 : decode cX9_hueOf 52 = .ok (.iconst 1, 1) := by decide +kernel
theorem dX9_hueOf_53 : decode cX9_hueOf 53 = .ok (.iload_n 3, 1) := by decide +kernel
theorem dX9_hueOf_54 : decode cX9_hueOf 54 = .ok (.ishl, 1) := by decide +kernel
theorem dX9_hueOf_55 : decode cX9_hueOf 55 = .ok (.ior, 1) := by decide +kernel
theorem dX9_hueOf_56 : decode cX9_hueOf 56 = .ok (.istore_n 2, 1) := by decide +kernel
theorem dX9_hueOf_57 : decode cX9_hueOf 57 = .ok (.iinc 3 1, 3) := by decide +kernel
theorem dX9_hueOf_60 : decode cX9_hueOf 60 = .ok (.goto (-34), 3) := by decide +kernel
theorem dX9_hueOf_63 : decode cX9_hueOf 63 = .ok (.iload_n 2, 1) := by decide +kernel
theorem dX9_hueOf_64 : decode cX9_hueOf 64 = .ok (.ireturn, 1) := by decide +kernel
theorem dX9_darkness_0 : decode cX9_darkness 0 = .ok (.iload_n 0, 1) := by decide +kernel
theorem dX9_darkness_1 : decode cX9_darkness 1 = .ok (.iconst 0, 1) := by decide +kernel
theorem dX9_darkness_2 : decode cX9_darkness 2 = .ok (.invokestatic 9, 3) := by decide +kernel
theorem dX9_darkness_5 : decode cX9_darkness 5 = .ok (.iload_n 0, 1) := by decide +kernel
theorem dX9_darkness_6 : decode cX9_darkness 6 = .ok (.iconst 1, 1) := by decide +kernel
theorem dX9_darkness_7 : decode cX9_darkness 7 = .ok (.invokestatic 9, 3) := by decide +kernel
theorem dX9_darkness_10 : decode cX9_darkness 10 = .ok (.iadd, 1) := by decide +kernel
theorem dX9_darkness_11 : decode cX9_darkness 11 = .ok (.iload_n 0, 1) := by decide +kernel
theorem dX9_darkness_12 : decode cX9_darkness 12 = .ok (.iconst 2, 1) := by decide +kernel
theorem dX9_darkness_13 : decode cX9_darkness 13 = .ok (.invokestatic 9, 3) := by decide +kernel
theorem dX9_darkness_16 : decode cX9_darkness 16 = .ok (.iadd, 1) := by decide +kernel
theorem dX9_darkness_17 : decode cX9_darkness 17 = .ok (.ireturn, 1) := by decide +kernel
theorem dX10_init_0 : decode cX10_init 0 = .ok (.aload_n 0, 1) := by decide +kernel
theorem dX10_init_1 : decode cX10_init 1 = .ok (.invokespecial 1, 3) := by decide +kernel
theorem dX10_init_4 : decode cX10_init 4 = .ok (.aload_n 0, 1) := by decide +kernel
theorem dX10_init_5 : decode cX10_init 5 = .ok (.bipush 80, 2) := by decide +kernel
theorem dX10_init_7 : decode cX10_init 7 = .ok (.newarray .int, 2) := by decide +kernel
theorem dX10_init_9 : decode cX10_init 9 = .ok (.putfield 9, 3) := by decide +kernel
theorem dX10_init_12 : decode cX10_init 12 = .ok (.return_, 1) := by decide +kernel
theorem dX10_put_0 : decode cX10_put 0 = .ok (.aload_n 0, 1) := by decide +kernel
theorem dX10_put_1 : decode cX10_put 1 = .ok (.getfield 13, 3) := by decide +kernel
theorem dX10_put_4 : decode cX10_put 4 = .ok (.bipush 80, 2) := by decide +kernel
theorem dX10_put_6 : decode cX10_put 6 = .ok (.if_icmp .lt 5, 3) := by decide +kernel
theorem dX10_put_9 : decode cX10_put 9 = .ok (.iconst 0, 1) := by decide +kernel
theorem dX10_put_10 : decode cX10_put 10 = .ok (.ireturn, 1) := by decide +kernel
theorem dX10_put_11 : decode cX10_put 11 = .ok (.aload_n 0, 1) := by decide +kernel
theorem dX10_put_12 : decode cX10_put 12 = .ok (.getfield 9, 3) := by decide +kernel
theorem dX10_put_15 : decode cX10_put 15 = .ok (.aload_n 0, 1) := by decide +kernel
theorem dX10_put_16 : decode cX10_put 16 = .ok (.dup, 1) := by decide +kernel
theorem dX10_put_17 : decode cX10_put 17 = .ok (.getfield 13, 3) := by decide +kernel
theorem dX10_put_20 : decode cX10_put 20 = .ok (.dup_x1, 1) := by decide +kernel
theorem dX10_put_21 : decode cX10_put 21 = .ok (.iconst 1, 1) := by decide +kernel
theorem dX10_put_22 : decode cX10_put 22 = .ok (.iadd, 1) := by decide +kernel
theorem dX10_put_23 : decode cX10_put 23 = .ok (.putfield 13, 3) := by decide +kernel
theorem dX10_put_26 : decode cX10_put 26 = .ok (.iload_n 1, 1) := by decide +kernel
theorem dX10_put_27 : decode cX10_put 27 = .ok (.iastore, 1) := by decide +kernel
theorem dX10_put_28 : decode cX10_put 28 = .ok (.iconst 1, 1) := by decide +kernel
theorem dX10_put_29 : decode cX10_put 29 = .ok (.ireturn, 1) := by decide +kernel
theorem dX10_at_0 : decode cX10_at 0 = .ok (.iload_n 1, 1) := by decide +kernel
theorem dX10_at_1 : decode cX10_at 1 = .ok (.ifCond .lt 20, 3) := by decide +kernel
theorem dX10_at_4 : decode cX10_at 4 = .ok (.iload_n 1, 1) := by decide +kernel
theorem dX10_at_5 : decode cX10_at 5 = .ok (.aload_n 0, 1) := by decide +kernel
theorem dX10_at_6 : decode cX10_at 6 = .ok (.getfield 13, 3) := by decide +kernel
theorem dX10_at_9 : decode cX10_at 9 = .ok (.if_icmp .ge 12, 3) := by decide +kernel
theorem dX10_at_12 : decode cX10_at 12 = .ok (.aload_n 0, 1) := by decide +kernel
theorem dX10_at_13 : decode cX10_at 13 = .ok (.getfield 9, 3) := by decide +kernel
theorem dX10_at_16 : decode cX10_at 16 = .ok (.iload_n 1, 1) := by decide +kernel
theorem dX10_at_17 : decode cX10_at 17 = .ok (.iaload, 1) := by decide +kernel
theorem dX10_at_18 : decode cX10_at 18 = .ok (.goto 4, 3) := by decide +kernel
theorem dX10_at_21 : decode cX10_at 21 = .ok (.iconst (-1), 1) := by decide +kernel
theorem dX10_at_22 : decode cX10_at 22 = .ok (.ireturn, 1) := by decide +kernel
theorem dX11_init_0 : decode cX11_init 0 = .ok (.aload_n 0, 1) := by decide +kernel
theorem dX11_init_1 : decode cX11_init 1 = .ok (.invokespecial 1, 3) := by decide +kernel
theorem dX11_init_4 : decode cX11_init 4 = .ok (.aload_n 0, 1) := by decide +kernel
theorem dX11_init_5 : decode cX11_init 5 = .ok (.new 7, 3) := by decide +kernel
theorem dX11_init_8 : decode cX11_init 8 = .ok (.dup, 1) := by decide +kernel
theorem dX11_init_9 : decode cX11_init 9 = .ok (.invokespecial 9, 3) := by decide +kernel
theorem dX11_init_12 : decode cX11_init 12 = .ok (.putfield 10, 3) := by decide +kernel
theorem dX11_init_15 : decode cX11_init 15 = .ok (.aload_n 0, 1) := by decide +kernel
theorem dX11_init_16 : decode cX11_init 16 = .ok (.new 16, 3) := by decide +kernel
theorem dX11_init_19 : decode cX11_init 19 = .ok (.dup, 1) := by decide +kernel
theorem dX11_init_20 : decode cX11_init 20 = .ok (.aload_n 0, 1) := by decide +kernel
theorem dX11_init_21 : decode cX11_init 21 = .ok (.getfield 10, 3) := by decide +kernel
theorem dX11_init_24 : decode cX11_init 24 = .ok (.invokespecial 18, 3) := by decide +kernel
theorem dX11_init_27 : decode cX11_init 27 = .ok (.putfield 21, 3) := by decide +kernel
theorem dX11_init_30 : decode cX11_init 30 = .ok (.aload_n 0, 1) := by decide +kernel
theorem dX11_init_31 : decode cX11_init 31 = .ok (.new 25, 3) := by decide +kernel
theorem dX11_init_34 : decode cX11_init 34 = .ok (.dup, 1) := by decide +kernel
theorem dX11_init_35 : decode cX11_init 35 = .ok (.invokespecial 27, 3) := by decide +kernel
theorem dX11_init_38 : decode cX11_init 38 = .ok (.putfield 28, 3) := by decide +kernel
theorem dX11_init_41 : decode cX11_init 41 = .ok (.aload_n 0, 1) := by decide +kernel
theorem dX11_init_42 : decode cX11_init 42 = .ok (.new 32, 3) := by decide +kernel
theorem dX11_init_45 : decode cX11_init 45 = .ok (.dup, 1) := by decide +kernel
theorem dX11_init_46 : decode cX11_init 46 = .ok (.invokespecial 34, 3) := by decide +kernel
theorem dX11_init_49 : decode cX11_init 49 = .ok (.putfield 35, 3) := by decide +kernel
theorem dX11_init_52 : decode cX11_init 52 = .ok (.aload_n 0, 1) := by decide +kernel
theorem dX11_init_53 : decode cX11_init 53 = .ok (.iconst 2, 1) := by decide +kernel
theorem dX11_init_54 : decode cX11_init 54 = .ok (.anewarray 25, 3) := by decide +kernel
theorem dX11_init_57 : decode cX11_init 57 = .ok (.putfield 39, 3) := by decide +kernel
theorem dX11_init_60 : decode cX11_init 60 = .ok (.iconst 0, 1) := by decide +kernel
theorem dX11_init_61 : decode cX11_init 61 = .ok (.istore_n 1, 1) := by decide +kernel
theorem dX11_init_62 : decode cX11_init 62 = .ok (.iload_n 1, 1) := by decide +kernel
theorem dX11_init_63 : decode cX11_init 63 = .ok (.iconst 2, 1) := by decide +kernel
theorem dX11_init_64 : decode cX11_init 64 = .ok (.if_icmp .ge 22, 3) := by decide +kernel
theorem dX11_init_67 : decode cX11_init 67 = .ok (.aload_n 0, 1) := by decide +kernel
theorem dX11_init_68 : decode cX11_init 68 = .ok (.getfield 39, 3) := by decide +kernel
theorem dX11_init_71 : decode cX11_init 71 = .ok (.iload_n 1, 1) := by decide +kernel
theorem dX11_init_72 : decode cX11_init 72 = .ok (.new 25, 3) := by decide +kernel
theorem dX11_init_75 : decode cX11_init 75 = .ok (.dup, 1) := by decide +kernel
theorem dX11_init_76 : decode cX11_init 76 = .ok (.invokespecial 27, 3) := by decide +kernel
theorem dX11_init_79 : decode cX11_init 79 = .ok (.aastore, 1) := by decide +kernel
theorem dX11_init_80 : decode cX11_init 80 = .ok (.iinc 1 1, 3) := by decide +kernel
theorem dX11_init_83 : decode cX11_init 83 = .ok (.goto (-21), 3) := by decide +kernel
theorem dX11_init_86 : decode cX11_init 86 = .ok (.aload_n 0, 1) := by decide +kernel
theorem dX11_init_87 : decode cX11_init 87 = .ok (.iconst 4, 1) := by decide +kernel
theorem dX11_init_88 : decode cX11_init 88 = .ok (.anewarray 43, 3) := by decide +kernel
theorem dX11_init_91 : decode cX11_init 91 = .ok (.putfield 45, 3) := by decide +kernel
theorem dX11_init_94 : decode cX11_init 94 = .ok (.iconst 0, 1) := by decide +kernel
theorem dX11_init_95 : decode cX11_init 95 = .ok (.istore_n 1, 1) := by decide +kernel
theorem dX11_init_96 : decode cX11_init 96 = .ok (.iload_n 1, 1) := by decide +kernel
theorem dX11_init_97 : decode cX11_init 97 = .ok (.iconst 4, 1) := by decide +kernel
theorem dX11_init_98 : decode cX11_init 98 = .ok (.if_icmp .ge 22, 3) := by decide +kernel
theorem dX11_init_101 : decode cX11_init 101 = .ok (.aload_n 0, 1) := by decide +kernel
theorem dX11_init_102 : decode cX11_init 102 = .ok (.getfield 45, 3) := by decide +kernel
theorem dX11_init_105 : decode cX11_init 105 = .ok (.iload_n 1, 1) := by decide +kernel
theorem dX11_init_106 : decode cX11_init 106 = .ok (.new 43, 3) := by decide +kernel
theorem dX11_init_109 : decode cX11_init 109 = .ok (.dup, 1) := by decide +kernel
theorem dX11_init_110 : decode cX11_init 110 = .ok (.invokespecial 49, 3) := by decide +kernel
theorem dX11_init_113 : decode cX11_init 113 = .ok (.aastore, 1) := by decide +kernel
theorem dX11_init_114 : decode cX11_init 114 = .ok (.iinc 1 1, 3) := by decide +kernel
theorem dX11_init_117 : decode cX11_init 117 = .ok (.goto (-21), 3) := by decide +kernel
theorem dX11_init_120 : decode cX11_init 120 = .ok (.aload_n 0, 1) := by decide +kernel
theorem dX11_init_121 : decode cX11_init 121 = .ok (.new 50, 3) := by decide +kernel
theorem dX11_init_124 : decode cX11_init 124 = .ok (.dup, 1) := by decide +kernel
theorem dX11_init_125 : decode cX11_init 125 = .ok (.invokespecial 52, 3) := by decide +kernel
theorem dX11_init_128 : decode cX11_init 128 = .ok (.putfield 53, 3) := by decide +kernel
theorem dX11_init_131 : decode cX11_init 131 = .ok (.aload_n 0, 1) := by decide +kernel
theorem dX11_init_132 : decode cX11_init 132 = .ok (.new 57, 3) := by decide +kernel
theorem dX11_init_135 : decode cX11_init 135 = .ok (.dup, 1) := by decide +kernel
theorem dX11_init_136 : decode cX11_init 136 = .ok (.invokespecial 59, 3) := by decide +kernel
theorem dX11_init_139 : decode cX11_init 139 = .ok (.putfield 60, 3) := by decide +kernel
theorem dX11_init_142 : decode cX11_init 142 = .ok (.aload_n 0, 1) := by decide +kernel
theorem dX11_init_143 : decode cX11_init 143 = .ok (.new 64, 3) := by decide +kernel
theorem dX11_init_146 : decode cX11_init 146 = .ok (.dup, 1) := by decide +kernel
theorem dX11_init_147 : decode cX11_init 147 = .ok (.invokespecial 66, 3) := by decide +kernel
theorem dX11_init_150 : decode cX11_init 150 = .ok (.putfield 67, 3) := by decide +kernel
theorem dX11_init_153 : decode cX11_init 153 = .ok (.aload_n 0, 1) := by decide +kernel
theorem dX11_init_154 : decode cX11_init 154 = .ok (.new 71, 3) := by decide +kernel
theorem dX11_init_157 : decode cX11_init 157 = .ok (.dup, 1) := by decide +kernel
theorem dX11_init_158 : decode cX11_init 158 = .ok (.invokespecial 73, 3) := by decide +kernel
theorem dX11_init_161 : decode cX11_init 161 = .ok (.putfield 74, 3) := by decide +kernel
theorem dX11_init_164 : decode cX11_init 164 = .ok (.aload_n 0, 1) := by decide +kernel
theorem dX11_init_165 : decode cX11_init 165 = .ok (.bipush 20, 2) := by decide +kernel
theorem dX11_init_167 : decode cX11_init 167 = .ok (.newarray .int, 2) := by decide +kernel
theorem dX11_init_169 : decode cX11_init 169 = .ok (.putfield 78, 3) := by decide +kernel
theorem dX11_init_172 : decode cX11_init 172 = .ok (.return_, 1) := by decide +kernel
theorem dX11_feed_0 : decode cX11_feed 0 = .ok (.iload_n 1, 1) := by decide +kernel
theorem dX11_feed_1 : decode cX11_feed 1 = .ok (.ifCond .lt 10, 3) := by decide +kernel
theorem dX11_feed_4 : decode cX11_feed 4 = .ok (.iload_n 1, 1) := by decide +kernel
theorem dX11_feed_5 : decode cX11_feed 5 = .ok (.sipush 255, 3) := by decide +kernel
theorem dX11_feed_8 : decode cX11_feed 8 = .ok (.if_icmp .le 5, 3) := by decide +kernel
theorem dX11_feed_11 : decode cX11_feed 11 = .ok (.iconst (-1), 1) := by decide +kernel
theorem dX11_feed_12 : decode cX11_feed 12 = .ok (.ireturn, 1) := by decide +kernel
theorem dX11_feed_13 : decode cX11_feed 13 = .ok (.aload_n 0, 1) := by decide +kernel
theorem dX11_feed_14 : decode cX11_feed 14 = .ok (.getfield 10, 3) := by decide +kernel
theorem dX11_feed_17 : decode cX11_feed 17 = .ok (.iload_n 1, 1) := by decide +kernel
theorem dX11_feed_18 : decode cX11_feed 18 = .ok (.invokevirtual 82, 3) := by decide +kernel
theorem dX11_feed_21 : decode cX11_feed 21 = .ok (.ifCond .eq 13, 3) := by decide +kernel
theorem dX11_feed_24 : decode cX11_feed 24 = .ok (.aload_n 0, 1) := by decide +kernel
theorem dX11_feed_25 : decode cX11_feed 25 = .ok (.getfield 10, 3) := by decide +kernel
theorem dX11_feed_28 : decode cX11_feed 28 = .ok (.getfield 86, 3) := by decide +kernel
theorem dX11_feed_31 : decode cX11_feed 31 = .ok (.goto 5, 3) := by decide +kernel
theorem dX11_feed_34 : decode cX11_feed 34 = .ok (.bipush (-3), 2) := by decide +kernel
theorem dX11_feed_36 : decode cX11_feed 36 = .ok (.ireturn, 1) := by decide +kernel
theorem dX11_cloth_0 : decode cX11_cloth 0 = .ok (.aload_n 0, 1) := by decide +kernel
theorem dX11_cloth_1 : decode cX11_cloth 1 = .ok (.getfield 21, 3) := by decide +kernel
theorem dX11_cloth_4 : decode cX11_cloth 4 = .ok (.invokevirtual 90, 3) := by decide +kernel
theorem dX11_cloth_7 : decode cX11_cloth 7 = .ok (.istore_n 1, 1) := by decide +kernel
theorem dX11_cloth_8 : decode cX11_cloth 8 = .ok (.aload_n 0, 1) := by decide +kernel
theorem dX11_cloth_9 : decode cX11_cloth 9 = .ok (.getfield 10, 3) := by decide +kernel
theorem dX11_cloth_12 : decode cX11_cloth 12 = .ok (.iconst 0, 1) := by decide +kernel
theorem dX11_cloth_13 : decode cX11_cloth 13 = .ok (.putfield 86, 3) := by decide +kernel
theorem dX11_cloth_16 : decode cX11_cloth 16 = .ok (.iload_n 1, 1) := by decide +kernel
theorem dX11_cloth_17 : decode cX11_cloth 17 = .ok (.ifCond .ne 14, 3) := by decide +kernel
theorem dX11_cloth_20 : decode cX11_cloth 20 = .ok (.bipush (-100), 2) := by decide +kernel
theorem dX11_cloth_22 : decode cX11_cloth 22 = .ok (.aload_n 0, 1) := by decide +kernel
theorem dX11_cloth_23 : decode cX11_cloth 23 = .ok (.getfield 21, 3) := by decide +kernel
theorem dX11_cloth_26 : decode cX11_cloth 26 = .ok (.getfield 94, 3) := by decide +kernel
theorem dX11_cloth_29 : decode cX11_cloth 29 = .ok (.isub, 1) := by decide +kernel
theorem dX11_cloth_30 : decode cX11_cloth 30 = .ok (.ireturn, 1) := by decide +kernel
theorem dX11_cloth_31 : decode cX11_cloth 31 = .ok (.aload_n 0, 1) := by decide +kernel
theorem dX11_cloth_32 : decode cX11_cloth 32 = .ok (.getfield 28, 3) := by decide +kernel
theorem dX11_cloth_35 : decode cX11_cloth 35 = .ok (.aload_n 0, 1) := by decide +kernel
theorem dX11_cloth_36 : decode cX11_cloth 36 = .ok (.getfield 21, 3) := by decide +kernel
theorem dX11_cloth_39 : decode cX11_cloth 39 = .ok (.getfield 97, 3) := by decide +kernel
theorem dX11_cloth_42 : decode cX11_cloth 42 = .ok (.invokevirtual 100, 3) := by decide +kernel
theorem dX11_cloth_45 : decode cX11_cloth 45 = .ok (.aload_n 0, 1) := by decide +kernel
theorem dX11_cloth_46 : decode cX11_cloth 46 = .ok (.getfield 35, 3) := by decide +kernel
theorem dX11_cloth_49 : decode cX11_cloth 49 = .ok (.invokevirtual 104, 3) := by decide +kernel
theorem dX11_cloth_52 : decode cX11_cloth 52 = .ok (.aload_n 0, 1) := by decide +kernel
theorem dX11_cloth_53 : decode cX11_cloth 53 = .ok (.getfield 28, 3) := by decide +kernel
theorem dX11_cloth_56 : decode cX11_cloth 56 = .ok (.getfield 107, 3) := by decide +kernel
theorem dX11_cloth_59 : decode cX11_cloth 59 = .ok (.ireturn, 1) := by decide +kernel
theorem dX11_square_0 : decode cX11_square 0 = .ok (.aload_n 0, 1) := by decide +kernel
theorem dX11_square_1 : decode cX11_square 1 = .ok (.getfield 28, 3) := by decide +kernel
theorem dX11_square_4 : decode cX11_square 4 = .ok (.iload_n 1, 1) := by decide +kernel
theorem dX11_square_5 : decode cX11_square 5 = .ok (.invokevirtual 110, 3) := by decide +kernel
theorem dX11_square_8 : decode cX11_square 8 = .ok (.ifCond .ne 5, 3) := by decide +kernel
theorem dX11_square_11 : decode cX11_square 11 = .ok (.iconst (-1), 1) := by decide +kernel
theorem dX11_square_12 : decode cX11_square 12 = .ok (.ireturn, 1) := by decide +kernel
theorem dX11_square_13 : decode cX11_square 13 = .ok (.aload_n 0, 1) := by decide +kernel
theorem dX11_square_14 : decode cX11_square 14 = .ok (.getfield 28, 3) := by decide +kernel
theorem dX11_square_17 : decode cX11_square 17 = .ok (.getfield 113, 3) := by decide +kernel
theorem dX11_square_20 : decode cX11_square 20 = .ok (.iload_n 1, 1) := by decide +kernel
theorem dX11_square_21 : decode cX11_square 21 = .ok (.iaload, 1) := by decide +kernel
theorem dX11_square_22 : decode cX11_square 22 = .ok (.istore_n 3, 1) := by decide +kernel
theorem dX11_square_23 : decode cX11_square 23 = .ok (.iload_n 2, 1) := by decide +kernel
theorem dX11_square_24 : decode cX11_square 24 = .ok (.tableswitch 114 0 8 #[52, 62, 72, 77, 82, 87, 105, 105, 105], 52) := by decide +kernel
theorem dX11_square_76 : decode cX11_square 76 = .ok (.aload_n 0, 1) := by decide +kernel
theorem dX11_square_77 : decode cX11_square 77 = .ok (.getfield 28, 3) := by decide +kernel
theorem dX11_square_80 : decode cX11_square 80 = .ok (.getfield 116, 3) := by decide +kernel
theorem dX11_square_83 : decode cX11_square 83 = .ok (.iload_n 1, 1) := by decide +kernel
theorem dX11_square_84 : decode cX11_square 84 = .ok (.iaload, 1) := by decide +kernel
theorem dX11_square_85 : decode cX11_square 85 = .ok (.ireturn, 1) := by decide +kernel
theorem dX11_square_86 : decode cX11_square 86 = .ok (.aload_n 0, 1) := by decide +kernel
theorem dX11_square_87 : decode cX11_square 87 = .ok (.getfield 28, 3) := by decide +kernel
theorem dX11_square_90 : decode cX11_square 90 = .ok (.getfield 119, 3) := by decide +kernel
theorem dX11_square_93 : decode cX11_square 93 = .ok (.iload_n 1, 1) := by decide +kernel
theorem dX11_square_94 : decode cX11_square 94 = .ok (.iaload, 1) := by decide +kernel
theorem dX11_square_95 : decode cX11_square 95 = .ok (.ireturn, 1) := by decide +kernel
theorem dX11_square_96 : decode cX11_square 96 = .ok (.iload_n 3, 1) := by decide +kernel
theorem dX11_square_97 : decode cX11_square 97 = .ok (.invokestatic 122, 3) := by decide +kernel
theorem dX11_square_100 : decode cX11_square 100 = .ok (.ireturn, 1) := by decide +kernel
theorem dX11_square_101 : decode cX11_square 101 = .ok (.iload_n 3, 1) := by decide +kernel
theorem dX11_square_102 : decode cX11_square 102 = .ok (.invokestatic 128, 3) := by decide +kernel
theorem dX11_square_105 : decode cX11_square 105 = .ok (.ireturn, 1) := by decide +kernel
theorem dX11_square_106 : decode cX11_square 106 = .ok (.iload_n 3, 1) := by decide +kernel
theorem dX11_square_107 : decode cX11_square 107 = .ok (.invokestatic 131, 3) := by decide +kernel
theorem dX11_square_110 : decode cX11_square 110 = .ok (.ireturn, 1) := by decide +kernel
theorem dX11_square_111 : decode cX11_square 111 = .ok (.aload_n 0, 1) := by decide +kernel
theorem dX11_square_112 : decode cX11_square 112 = .ok (.getfield 28, 3) := by decide +kernel
theorem dX11_square_115 : decode cX11_square 115 = .ok (.iload_n 1, 1) := by decide +kernel
theorem dX11_square_116 : decode cX11_square 116 = .ok (.iload_n 3, 1) := by decide +kernel
theorem dX11_square_117 : decode cX11_square 117 = .ok (.invokevirtual 134, 3) := by decide +kernel
theorem dX11_square_120 : decode cX11_square 120 = .ok (.ifCond .eq 7, 3) := by decide +kernel
theorem dX11_square_123 : decode cX11_square 123 = .ok (.iconst 1, 1) := by decide +kernel
theorem dX11_square_124 : decode cX11_square 124 = .ok (.goto 4, 3) := by decide +kernel
theorem dX11_square_127 : decode cX11_square 127 = .ok (.iconst 0, 1) := by decide +kernel
theorem dX11_square_128 : decode cX11_square 128 = .ok (.ireturn, 1) := by decide +kernel
theorem dX11_square_129 : decode cX11_square 129 = .ok (.iload_n 3, 1) := by decide +kernel
theorem dX11_square_130 : decode cX11_square 130 = .ok (.iload_n 2, 1) := by decide +kernel
theorem dX11_square_131 : decode cX11_square 131 = .ok (.bipush 6, 2) := by decide +kernel
theorem dX11_square_133 : decode cX11_square 133 = .ok (.isub, 1) := by decide +kernel
theorem dX11_square_134 : decode cX11_square 134 = .ok (.invokestatic 138, 3) := by decide +kernel
theorem dX11_square_137 : decode cX11_square 137 = .ok (.ireturn, 1) := by decide +kernel
theorem dX11_square_138 : decode cX11_square 138 = .ok (.iconst (-1), 1) := by decide +kernel
theorem dX11_square_139 : decode cX11_square 139 = .ok (.ireturn, 1) := by decide +kernel
theorem dX11_as_0 : decode cX11_as 0 = .ok (.aload_n 0, 1) := by decide +kernel
theorem dX11_as_1 : decode cX11_as 1 = .ok (.getfield 28, 3) := by decide +kernel
theorem dX11_as_4 : decode cX11_as 4 = .ok (.iload_n 1, 1) := by decide +kernel
theorem dX11_as_5 : decode cX11_as 5 = .ok (.invokevirtual 110, 3) := by decide +kernel
theorem dX11_as_8 : decode cX11_as 8 = .ok (.ifCond .eq 12, 3) := by decide +kernel
theorem dX11_as_11 : decode cX11_as 11 = .ok (.iload_n 2, 1) := by decide +kernel
theorem dX11_as_12 : decode cX11_as 12 = .ok (.ifCond .lt 8, 3) := by decide +kernel
theorem dX11_as_15 : decode cX11_as 15 = .ok (.iload_n 2, 1) := by decide +kernel
theorem dX11_as_16 : decode cX11_as 16 = .ok (.iconst 5, 1) := by decide +kernel
theorem dX11_as_17 : decode cX11_as 17 = .ok (.if_icmp .le 5, 3) := by decide +kernel
theorem dX11_as_20 : decode cX11_as 20 = .ok (.iconst (-1), 1) := by decide +kernel
theorem dX11_as_21 : decode cX11_as 21 = .ok (.ireturn, 1) := by decide +kernel
theorem dX11_as_22 : decode cX11_as 22 = .ok (.aload_n 0, 1) := by decide +kernel
theorem dX11_as_23 : decode cX11_as 23 = .ok (.getfield 28, 3) := by decide +kernel
theorem dX11_as_26 : decode cX11_as 26 = .ok (.getfield 116, 3) := by decide +kernel
theorem dX11_as_29 : decode cX11_as 29 = .ok (.iload_n 1, 1) := by decide +kernel
theorem dX11_as_30 : decode cX11_as 30 = .ok (.iaload, 1) := by decide +kernel
theorem dX11_as_31 : decode cX11_as 31 = .ok (.iload_n 2, 1) := by decide +kernel
theorem dX11_as_32 : decode cX11_as 32 = .ok (.invokestatic 144, 3) := by decide +kernel
theorem dX11_as_35 : decode cX11_as 35 = .ok (.ifCond .eq 7, 3) := by decide +kernel
theorem dX11_as_38 : decode cX11_as 38 = .ok (.iload_n 1, 1) := by decide +kernel
theorem dX11_as_39 : decode cX11_as 39 = .ok (.goto 5, 3) := by decide +kernel
theorem dX11_as_42 : decode cX11_as 42 = .ok (.bipush (-12), 2) := by decide +kernel
theorem dX11_as_44 : decode cX11_as 44 = .ok (.ireturn, 1) := by decide +kernel
theorem dX11_dye_0 : decode cX11_dye 0 = .ok (.aload_n 0, 1) := by decide +kernel
theorem dX11_dye_1 : decode cX11_dye 1 = .ok (.getfield 28, 3) := by decide +kernel
theorem dX11_dye_4 : decode cX11_dye 4 = .ok (.iload_n 1, 1) := by decide +kernel
theorem dX11_dye_5 : decode cX11_dye 5 = .ok (.invokevirtual 147, 3) := by decide +kernel
theorem dX11_dye_8 : decode cX11_dye 8 = .ok (.ifCond .eq 10, 3) := by decide +kernel
theorem dX11_dye_11 : decode cX11_dye 11 = .ok (.iload_n 2, 1) := by decide +kernel
theorem dX11_dye_12 : decode cX11_dye 12 = .ok (.invokestatic 150, 3) := by decide +kernel
theorem dX11_dye_15 : decode cX11_dye 15 = .ok (.ifCond .ne 5, 3) := by decide +kernel
theorem dX11_dye_18 : decode cX11_dye 18 = .ok (.iconst (-1), 1) := by decide +kernel
theorem dX11_dye_19 : decode cX11_dye 19 = .ok (.ireturn, 1) := by decide +kernel
theorem dX11_dye_20 : decode cX11_dye 20 = .ok (.aload_n 0, 1) := by decide +kernel
theorem dX11_dye_21 : decode cX11_dye 21 = .ok (.getfield 28, 3) := by decide +kernel
theorem dX11_dye_24 : decode cX11_dye 24 = .ok (.iload_n 1, 1) := by decide +kernel
theorem dX11_dye_25 : decode cX11_dye 25 = .ok (.iload_n 2, 1) := by decide +kernel
theorem dX11_dye_26 : decode cX11_dye 26 = .ok (.invokevirtual 153, 3) := by decide +kernel
theorem dX11_dye_29 : decode cX11_dye 29 = .ok (.ireturn, 1) := by decide +kernel
theorem dX11_stencil_0 : decode cX11_stencil 0 = .ok (.aload_n 0, 1) := by decide +kernel
theorem dX11_stencil_1 : decode cX11_stencil 1 = .ok (.getfield 28, 3) := by decide +kernel
theorem dX11_stencil_4 : decode cX11_stencil 4 = .ok (.iload_n 1, 1) := by decide +kernel
theorem dX11_stencil_5 : decode cX11_stencil 5 = .ok (.invokevirtual 156, 3) := by decide +kernel
theorem dX11_stencil_8 : decode cX11_stencil 8 = .ok (.ifCond .eq 15, 3) := by decide +kernel
theorem dX11_stencil_11 : decode cX11_stencil 11 = .ok (.aload_n 0, 1) := by decide +kernel
theorem dX11_stencil_12 : decode cX11_stencil 12 = .ok (.getfield 28, 3) := by decide +kernel
theorem dX11_stencil_15 : decode cX11_stencil 15 = .ok (.getfield 159, 3) := by decide +kernel
theorem dX11_stencil_18 : decode cX11_stencil 18 = .ok (.iload_n 1, 1) := by decide +kernel
theorem dX11_stencil_19 : decode cX11_stencil 19 = .ok (.iaload, 1) := by decide +kernel
theorem dX11_stencil_20 : decode cX11_stencil 20 = .ok (.goto 4, 3) := by decide +kernel
theorem dX11_stencil_23 : decode cX11_stencil 23 = .ok (.iconst (-1), 1) := by decide +kernel
theorem dX11_stencil_24 : decode cX11_stencil 24 = .ok (.ireturn, 1) := by decide +kernel
theorem dX11_takes_0 : decode cX11_takes 0 = .ok (.aload_n 0, 1) := by decide +kernel
theorem dX11_takes_1 : decode cX11_takes 1 = .ok (.getfield 28, 3) := by decide +kernel
theorem dX11_takes_4 : decode cX11_takes 4 = .ok (.iload_n 1, 1) := by decide +kernel
theorem dX11_takes_5 : decode cX11_takes 5 = .ok (.invokevirtual 110, 3) := by decide +kernel
theorem dX11_takes_8 : decode cX11_takes 8 = .ok (.ifCond .eq 21, 3) := by decide +kernel
theorem dX11_takes_11 : decode cX11_takes 11 = .ok (.aload_n 0, 1) := by decide +kernel
theorem dX11_takes_12 : decode cX11_takes 12 = .ok (.getfield 28, 3) := by decide +kernel
theorem dX11_takes_15 : decode cX11_takes 15 = .ok (.iload_n 2, 1) := by decide +kernel
theorem dX11_takes_16 : decode cX11_takes 16 = .ok (.invokevirtual 147, 3) := by decide +kernel
theorem dX11_takes_19 : decode cX11_takes 19 = .ok (.ifCond .eq 10, 3) := by decide +kernel
theorem dX11_takes_22 : decode cX11_takes 22 = .ok (.iload_n 3, 1) := by decide +kernel
theorem dX11_takes_23 : decode cX11_takes 23 = .ok (.invokestatic 150, 3) := by decide +kernel
theorem dX11_takes_26 : decode cX11_takes 26 = .ok (.ifCond .ne 5, 3) := by decide +kernel
theorem dX11_takes_29 : decode cX11_takes 29 = .ok (.iconst (-1), 1) := by decide +kernel
theorem dX11_takes_30 : decode cX11_takes 30 = .ok (.ireturn, 1) := by decide +kernel
theorem dX11_takes_31 : decode cX11_takes 31 = .ok (.aload_n 0, 1) := by decide +kernel
theorem dX11_takes_32 : decode cX11_takes 32 = .ok (.getfield 28, 3) := by decide +kernel
theorem dX11_takes_35 : decode cX11_takes 35 = .ok (.getfield 113, 3) := by decide +kernel
theorem dX11_takes_38 : decode cX11_takes 38 = .ok (.iload_n 1, 1) := by decide +kernel
theorem dX11_takes_39 : decode cX11_takes 39 = .ok (.iaload, 1) := by decide +kernel
theorem dX11_takes_40 : decode cX11_takes 40 = .ok (.istore 4, 2) := by decide +kernel
theorem dX11_takes_42 : decode cX11_takes 42 = .ok (.iload 4, 2) := by decide +kernel
theorem dX11_takes_44 : decode cX11_takes 44 = .ok (.invokestatic 122, 3) := by decide +kernel
theorem dX11_takes_47 : decode cX11_takes 47 = .ok (.ifCond .le 7, 3) := by decide +kernel
theorem dX11_takes_50 : decode cX11_takes 50 = .ok (.iconst 0, 1) := by decide +kernel
theorem dX11_takes_51 : decode cX11_takes 51 = .ok (.goto 15, 3) := by decide +kernel
theorem dX11_takes_54 : decode cX11_takes 54 = .ok (.aload_n 0, 1) := by decide +kernel
theorem dX11_takes_55 : decode cX11_takes 55 = .ok (.getfield 28, 3) := by decide +kernel
theorem dX11_takes_58 : decode cX11_takes 58 = .ok (.iload_n 1, 1) := by decide +kernel
theorem dX11_takes_59 : decode cX11_takes 59 = .ok (.iload 4, 2) := by decide +kernel
theorem dX11_takes_61 : decode cX11_takes 61 = .ok (.iload_n 2, 1) := by decide +kernel
theorem dX11_takes_62 : decode cX11_takes 62 = .ok (.iload_n 3, 1) := by decide +kernel
theorem dX11_takes_63 : decode cX11_takes 63 = .ok (.invokevirtual 162, 3) := by decide +kernel
theorem dX11_takes_66 : decode cX11_takes 66 = .ok (.ireturn, 1) := by decide +kernel
theorem dX11_does_0 : decode cX11_does 0 = .ok (.aload_n 0, 1) := by decide +kernel
theorem dX11_does_1 : decode cX11_does 1 = .ok (.getfield 28, 3) := by decide +kernel
theorem dX11_does_4 : decode cX11_does 4 = .ok (.iload_n 1, 1) := by decide +kernel
theorem dX11_does_5 : decode cX11_does 5 = .ok (.i2l, 1) := by decide +kernel
theorem dX11_does_6 : decode cX11_does 6 = .ok (.invokevirtual 166, 3) := by decide +kernel
theorem dX11_does_9 : decode cX11_does 9 = .ok (.ifCond .ne 5, 3) := by decide +kernel
theorem dX11_does_12 : decode cX11_does 12 = .ok (.iconst (-1), 1) := by decide +kernel
theorem dX11_does_13 : decode cX11_does 13 = .ok (.ireturn, 1) := by decide +kernel
theorem dX11_does_14 : decode cX11_does 14 = .ok (.aload_n 0, 1) := by decide +kernel
theorem dX11_does_15 : decode cX11_does 15 = .ok (.getfield 28, 3) := by decide +kernel
theorem dX11_does_18 : decode cX11_does 18 = .ok (.getfield 170, 3) := by decide +kernel
theorem dX11_does_21 : decode cX11_does 21 = .ok (.sipush 9999, 3) := by decide +kernel
theorem dX11_does_24 : decode cX11_does 24 = .ok (.if_icmp .lt 6, 3) := by decide +kernel
theorem dX11_does_27 : decode cX11_does 27 = .ok (.bipush (-3), 2) := by decide +kernel
theorem dX11_does_29 : decode cX11_does 29 = .ok (.ireturn, 1) := by decide +kernel
theorem dX11_does_30 : decode cX11_does 30 = .ok (.aload_n 0, 1) := by decide +kernel
theorem dX11_does_31 : decode cX11_does 31 = .ok (.getfield 35, 3) := by decide +kernel
theorem dX11_does_34 : decode cX11_does 34 = .ok (.aload_n 0, 1) := by decide +kernel
theorem dX11_does_35 : decode cX11_does 35 = .ok (.getfield 28, 3) := by decide +kernel
theorem dX11_does_38 : decode cX11_does 38 = .ok (.getfield 113, 3) := by decide +kernel
theorem dX11_does_41 : decode cX11_does 41 = .ok (.invokevirtual 173, 3) := by decide +kernel
theorem dX11_does_44 : decode cX11_does 44 = .ok (.aload_n 0, 1) := by decide +kernel
theorem dX11_does_45 : decode cX11_does 45 = .ok (.getfield 28, 3) := by decide +kernel
theorem dX11_does_48 : decode cX11_does 48 = .ok (.iload_n 1, 1) := by decide +kernel
theorem dX11_does_49 : decode cX11_does 49 = .ok (.aload_n 0, 1) := by decide +kernel
theorem dX11_does_50 : decode cX11_does 50 = .ok (.getfield 28, 3) := by decide +kernel
theorem dX11_does_53 : decode cX11_does 53 = .ok (.getfield 113, 3) := by decide +kernel
theorem dX11_does_56 : decode cX11_does 56 = .ok (.aload_n 0, 1) := by decide +kernel
theorem dX11_does_57 : decode cX11_does 57 = .ok (.getfield 28, 3) := by decide +kernel
theorem dX11_does_60 : decode cX11_does 60 = .ok (.getfield 113, 3) := by decide +kernel
theorem dX11_does_63 : decode cX11_does 63 = .ok (.invokevirtual 177, 3) := by decide +kernel
theorem dX11_does_66 : decode cX11_does 66 = .ok (.pop, 1) := by decide +kernel
theorem dX11_does_67 : decode cX11_does 67 = .ok (.aload_n 0, 1) := by decide +kernel
theorem dX11_does_68 : decode cX11_does 68 = .ok (.getfield 28, 3) := by decide +kernel
theorem dX11_does_71 : decode cX11_does 71 = .ok (.dup, 1) := by decide +kernel
theorem dX11_does_72 : decode cX11_does 72 = .ok (.getfield 170, 3) := by decide +kernel
theorem dX11_does_75 : decode cX11_does 75 = .ok (.iconst 1, 1) := by decide +kernel
theorem dX11_does_76 : decode cX11_does 76 = .ok (.iadd, 1) := by decide +kernel
theorem dX11_does_77 : decode cX11_does 77 = .ok (.putfield 170, 3) := by decide +kernel
theorem dX11_does_80 : decode cX11_does 80 = .ok (.aload_n 0, 1) := by decide +kernel
theorem dX11_does_81 : decode cX11_does 81 = .ok (.getfield 28, 3) := by decide +kernel
theorem dX11_does_84 : decode cX11_does 84 = .ok (.aload_n 0, 1) := by decide +kernel
theorem dX11_does_85 : decode cX11_does 85 = .ok (.getfield 28, 3) := by decide +kernel
theorem dX11_does_88 : decode cX11_does 88 = .ok (.getfield 113, 3) := by decide +kernel
theorem dX11_does_91 : decode cX11_does 91 = .ok (.invokevirtual 181, 3) := by decide +kernel
theorem dX11_does_94 : decode cX11_does 94 = .ok (.ireturn, 1) := by decide +kernel
theorem dX11_undo_0 : decode cX11_undo 0 = .ok (.aload_n 0, 1) := by decide +kernel
theorem dX11_undo_1 : decode cX11_undo 1 = .ok (.getfield 35, 3) := by decide +kernel
theorem dX11_undo_4 : decode cX11_undo 4 = .ok (.aload_n 0, 1) := by decide +kernel
theorem dX11_undo_5 : decode cX11_undo 5 = .ok (.getfield 28, 3) := by decide +kernel
theorem dX11_undo_8 : decode cX11_undo 8 = .ok (.getfield 113, 3) := by decide +kernel
theorem dX11_undo_11 : decode cX11_undo 11 = .ok (.invokevirtual 185, 3) := by decide +kernel
theorem dX11_undo_14 : decode cX11_undo 14 = .ok (.ifCond .ne 6, 3) := by decide +kernel
theorem dX11_undo_17 : decode cX11_undo 17 = .ok (.bipush (-4), 2) := by decide +kernel
theorem dX11_undo_19 : decode cX11_undo 19 = .ok (.ireturn, 1) := by decide +kernel
theorem dX11_undo_20 : decode cX11_undo 20 = .ok (.aload_n 0, 1) := by decide +kernel
theorem dX11_undo_21 : decode cX11_undo 21 = .ok (.getfield 28, 3) := by decide +kernel
theorem dX11_undo_24 : decode cX11_undo 24 = .ok (.dup, 1) := by decide +kernel
theorem dX11_undo_25 : decode cX11_undo 25 = .ok (.getfield 170, 3) := by decide +kernel
theorem dX11_undo_28 : decode cX11_undo 28 = .ok (.iconst 1, 1) := by decide +kernel
theorem dX11_undo_29 : decode cX11_undo 29 = .ok (.isub, 1) := by decide +kernel
theorem dX11_undo_30 : decode cX11_undo 30 = .ok (.putfield 170, 3) := by decide +kernel
theorem dX11_undo_33 : decode cX11_undo 33 = .ok (.aload_n 0, 1) := by decide +kernel
theorem dX11_undo_34 : decode cX11_undo 34 = .ok (.getfield 35, 3) := by decide +kernel
theorem dX11_undo_37 : decode cX11_undo 37 = .ok (.getfield 189, 3) := by decide +kernel
theorem dX11_undo_40 : decode cX11_undo 40 = .ok (.ireturn, 1) := by decide +kernel
theorem dX11_wish_0 : decode cX11_wish 0 = .ok (.aload_n 0, 1) := by decide +kernel
theorem dX11_wish_1 : decode cX11_wish 1 = .ok (.getfield 28, 3) := by decide +kernel
theorem dX11_wish_4 : decode cX11_wish 4 = .ok (.iload_n 1, 1) := by decide +kernel
theorem dX11_wish_5 : decode cX11_wish 5 = .ok (.invokevirtual 110, 3) := by decide +kernel
theorem dX11_wish_8 : decode cX11_wish 8 = .ok (.ifCond .eq 13, 3) := by decide +kernel
theorem dX11_wish_11 : decode cX11_wish 11 = .ok (.iload_n 2, 1) := by decide +kernel
theorem dX11_wish_12 : decode cX11_wish 12 = .ok (.ifCond .lt 9, 3) := by decide +kernel
theorem dX11_wish_15 : decode cX11_wish 15 = .ok (.iload_n 2, 1) := by decide +kernel
theorem dX11_wish_16 : decode cX11_wish 16 = .ok (.bipush 7, 2) := by decide +kernel
theorem dX11_wish_18 : decode cX11_wish 18 = .ok (.if_icmp .le 5, 3) := by decide +kernel
theorem dX11_wish_21 : decode cX11_wish 21 = .ok (.iconst (-1), 1) := by decide +kernel
theorem dX11_wish_22 : decode cX11_wish 22 = .ok (.ireturn, 1) := by decide +kernel
theorem dX11_wish_23 : decode cX11_wish 23 = .ok (.aload_n 0, 1) := by decide +kernel
theorem dX11_wish_24 : decode cX11_wish 24 = .ok (.getfield 28, 3) := by decide +kernel
theorem dX11_wish_27 : decode cX11_wish 27 = .ok (.getfield 119, 3) := by decide +kernel
theorem dX11_wish_30 : decode cX11_wish 30 = .ok (.iload_n 1, 1) := by decide +kernel
theorem dX11_wish_31 : decode cX11_wish 31 = .ok (.iaload, 1) := by decide +kernel
theorem dX11_wish_32 : decode cX11_wish 32 = .ok (.istore_n 3, 1) := by decide +kernel
theorem dX11_wish_33 : decode cX11_wish 33 = .ok (.aload_n 0, 1) := by decide +kernel
theorem dX11_wish_34 : decode cX11_wish 34 = .ok (.getfield 28, 3) := by decide +kernel
theorem dX11_wish_37 : decode cX11_wish 37 = .ok (.getfield 119, 3) := by decide +kernel
theorem dX11_wish_40 : decode cX11_wish 40 = .ok (.iload_n 1, 1) := by decide +kernel
theorem dX11_wish_41 : decode cX11_wish 41 = .ok (.iload_n 2, 1) := by decide +kernel
theorem dX11_wish_42 : decode cX11_wish 42 = .ok (.iastore, 1) := by decide +kernel
theorem dX11_wish_43 : decode cX11_wish 43 = .ok (.iload_n 3, 1) := by decide +kernel
theorem dX11_wish_44 : decode cX11_wish 44 = .ok (.ireturn, 1) := by decide +kernel
theorem dX11_image_0 : decode cX11_image 0 = .ok (.iload_n 1, 1) := by decide +kernel
theorem dX11_image_1 : decode cX11_image 1 = .ok (.ifCond .lt 8, 3) := by decide +kernel
theorem dX11_image_4 : decode cX11_image 4 = .ok (.iload_n 1, 1) := by decide +kernel
theorem dX11_image_5 : decode cX11_image 5 = .ok (.iconst 2, 1) := by decide +kernel
theorem dX11_image_6 : decode cX11_image 6 = .ok (.if_icmp .lt 5, 3) := by decide +kernel
theorem dX11_image_9 : decode cX11_image 9 = .ok (.iconst (-1), 1) := by decide +kernel
theorem dX11_image_10 : decode cX11_image 10 = .ok (.ireturn, 1) := by decide +kernel
theorem dX11_image_11 : decode cX11_image 11 = .ok (.aload_n 0, 1) := by decide +kernel
theorem dX11_image_12 : decode cX11_image 12 = .ok (.getfield 28, 3) := by decide +kernel
theorem dX11_image_15 : decode cX11_image 15 = .ok (.invokevirtual 192, 3) := by decide +kernel
theorem dX11_image_18 : decode cX11_image 18 = .ok (.ifCond .ne 6, 3) := by decide +kernel
theorem dX11_image_21 : decode cX11_image 21 = .ok (.bipush (-2), 2) := by decide +kernel
theorem dX11_image_23 : decode cX11_image 23 = .ok (.ireturn, 1) := by decide +kernel
theorem dX11_image_24 : decode cX11_image 24 = .ok (.aload_n 0, 1) := by decide +kernel
theorem dX11_image_25 : decode cX11_image 25 = .ok (.getfield 39, 3) := by decide +kernel
theorem dX11_image_28 : decode cX11_image 28 = .ok (.iload_n 1, 1) := by decide +kernel
theorem dX11_image_29 : decode cX11_image 29 = .ok (.aaload, 1) := by decide +kernel
theorem dX11_image_30 : decode cX11_image 30 = .ok (.aload_n 0, 1) := by decide +kernel
theorem dX11_image_31 : decode cX11_image 31 = .ok (.getfield 28, 3) := by decide +kernel
theorem dX11_image_34 : decode cX11_image 34 = .ok (.invokevirtual 100, 3) := by decide +kernel
theorem dX11_image_37 : decode cX11_image 37 = .ok (.aload_n 0, 1) := by decide +kernel
theorem dX11_image_38 : decode cX11_image 38 = .ok (.getfield 28, 3) := by decide +kernel
theorem dX11_image_41 : decode cX11_image 41 = .ok (.getfield 170, 3) := by decide +kernel
theorem dX11_image_44 : decode cX11_image 44 = .ok (.ireturn, 1) := by decide +kernel
theorem dX11_restore_0 : decode cX11_restore 0 = .ok (.iload_n 1, 1) := by decide +kernel
theorem dX11_restore_1 : decode cX11_restore 1 = .ok (.ifCond .lt 8, 3) := by decide +kernel
theorem dX11_restore_4 : decode cX11_restore 4 = .ok (.iload_n 1, 1) := by decide +kernel
theorem dX11_restore_5 : decode cX11_restore 5 = .ok (.iconst 2, 1) := by decide +kernel
theorem dX11_restore_6 : decode cX11_restore 6 = .ok (.if_icmp .lt 5, 3) := by decide +kernel
theorem dX11_restore_9 : decode cX11_restore 9 = .ok (.iconst (-1), 1) := by decide +kernel
theorem dX11_restore_10 : decode cX11_restore 10 = .ok (.ireturn, 1) := by decide +kernel
theorem dX11_restore_11 : decode cX11_restore 11 = .ok (.aload_n 0, 1) := by decide +kernel
theorem dX11_restore_12 : decode cX11_restore 12 = .ok (.getfield 39, 3) := by decide +kernel
theorem dX11_restore_15 : decode cX11_restore 15 = .ok (.iload_n 1, 1) := by decide +kernel
theorem dX11_restore_16 : decode cX11_restore 16 = .ok (.aaload, 1) := by decide +kernel
theorem dX11_restore_17 : decode cX11_restore 17 = .ok (.invokevirtual 192, 3) := by decide +kernel
theorem dX11_restore_20 : decode cX11_restore 20 = .ok (.ifCond .ne 6, 3) := by decide +kernel
theorem dX11_restore_23 : decode cX11_restore 23 = .ok (.bipush (-2), 2) := by decide +kernel
theorem dX11_restore_25 : decode cX11_restore 25 = .ok (.ireturn, 1) := by decide +kernel
theorem dX11_restore_26 : decode cX11_restore 26 = .ok (.aload_n 0, 1) := by decide +kernel
theorem dX11_restore_27 : decode cX11_restore 27 = .ok (.getfield 28, 3) := by decide +kernel
theorem dX11_restore_30 : decode cX11_restore 30 = .ok (.aload_n 0, 1) := by decide +kernel
theorem dX11_restore_31 : decode cX11_restore 31 = .ok (.getfield 39, 3) := by decide +kernel
theorem dX11_restore_34 : decode cX11_restore 34 = .ok (.iload_n 1, 1) := by decide +kernel
theorem dX11_restore_35 : decode cX11_restore 35 = .ok (.aaload, 1) := by decide +kernel
theorem dX11_restore_36 : decode cX11_restore 36 = .ok (.invokevirtual 100, 3) := by decide +kernel
theorem dX11_restore_39 : decode cX11_restore 39 = .ok (.aload_n 0, 1) := by decide +kernel
theorem dX11_restore_40 : decode cX11_restore 40 = .ok (.getfield 35, 3) := by decide +kernel
theorem dX11_restore_43 : decode cX11_restore 43 = .ok (.invokevirtual 104, 3) := by decide +kernel
theorem dX11_restore_46 : decode cX11_restore 46 = .ok (.aload_n 0, 1) := by decide +kernel
theorem dX11_restore_47 : decode cX11_restore 47 = .ok (.getfield 28, 3) := by decide +kernel
theorem dX11_restore_50 : decode cX11_restore 50 = .ok (.getfield 170, 3) := by decide +kernel
theorem dX11_restore_53 : decode cX11_restore 53 = .ok (.ireturn, 1) := by decide +kernel
theorem dX11_plan_0 : decode cX11_plan 0 = .ok (.iload_n 1, 1) := by decide +kernel
theorem dX11_plan_1 : decode cX11_plan 1 = .ok (.ifCond .lt 14, 3) := by decide +kernel
theorem dX11_plan_4 : decode cX11_plan 4 = .ok (.iload_n 1, 1) := by decide +kernel
theorem dX11_plan_5 : decode cX11_plan 5 = .ok (.iconst 4, 1) := by decide +kernel
theorem dX11_plan_6 : decode cX11_plan 6 = .ok (.if_icmp .gt 9, 3) := by decide +kernel
theorem dX11_plan_9 : decode cX11_plan 9 = .ok (.iload_n 2, 1) := by decide +kernel
theorem dX11_plan_10 : decode cX11_plan 10 = .ok (.bipush (-2), 2) := by decide +kernel
theorem dX11_plan_12 : decode cX11_plan 12 = .ok (.if_icmp .ge 5, 3) := by decide +kernel
theorem dX11_plan_15 : decode cX11_plan 15 = .ok (.iconst (-1), 1) := by decide +kernel
theorem dX11_plan_16 : decode cX11_plan 16 = .ok (.ireturn, 1) := by decide +kernel
theorem dX11_plan_17 : decode cX11_plan 17 = .ok (.aload_n 0, 1) := by decide +kernel
theorem dX11_plan_18 : decode cX11_plan 18 = .ok (.getfield 28, 3) := by decide +kernel
theorem dX11_plan_21 : decode cX11_plan 21 = .ok (.invokevirtual 192, 3) := by decide +kernel
theorem dX11_plan_24 : decode cX11_plan 24 = .ok (.ifCond .ne 6, 3) := by decide +kernel
theorem dX11_plan_27 : decode cX11_plan 27 = .ok (.bipush (-2), 2) := by decide +kernel
theorem dX11_plan_29 : decode cX11_plan 29 = .ok (.ireturn, 1) := by decide +kernel
theorem dX11_plan_30 : decode cX11_plan 30 = .ok (.aload_n 0, 1) := by decide +kernel
theorem dX11_plan_31 : decode cX11_plan 31 = .ok (.getfield 53, 3) := by decide +kernel
theorem dX11_plan_34 : decode cX11_plan 34 = .ok (.aload_n 0, 1) := by decide +kernel
theorem dX11_plan_35 : decode cX11_plan 35 = .ok (.getfield 28, 3) := by decide +kernel
theorem dX11_plan_38 : decode cX11_plan 38 = .ok (.iload_n 1, 1) := by decide +kernel
theorem dX11_plan_39 : decode cX11_plan 39 = .ok (.invokevirtual 195, 3) := by decide +kernel
theorem dX11_plan_42 : decode cX11_plan 42 = .ok (.iload_n 2, 1) := by decide +kernel
theorem dX11_plan_43 : decode cX11_plan 43 = .ok (.bipush (-2), 2) := by decide +kernel
theorem dX11_plan_45 : decode cX11_plan 45 = .ok (.if_icmp .ne 11, 3) := by decide +kernel
theorem dX11_plan_48 : decode cX11_plan 48 = .ok (.aload_n 0, 1) := by decide +kernel
theorem dX11_plan_49 : decode cX11_plan 49 = .ok (.getfield 53, 3) := by decide +kernel
theorem dX11_plan_52 : decode cX11_plan 52 = .ok (.getfield 199, 3) := by decide +kernel
theorem dX11_plan_55 : decode cX11_plan 55 = .ok (.ireturn, 1) := by decide +kernel
theorem dX11_plan_56 : decode cX11_plan 56 = .ok (.iload_n 2, 1) := by decide +kernel
theorem dX11_plan_57 : decode cX11_plan 57 = .ok (.iconst (-1), 1) := by decide +kernel
theorem dX11_plan_58 : decode cX11_plan 58 = .ok (.if_icmp .ne 11, 3) := by decide +kernel
theorem dX11_plan_61 : decode cX11_plan 61 = .ok (.aload_n 0, 1) := by decide +kernel
theorem dX11_plan_62 : decode cX11_plan 62 = .ok (.getfield 53, 3) := by decide +kernel
theorem dX11_plan_65 : decode cX11_plan 65 = .ok (.getfield 202, 3) := by decide +kernel
theorem dX11_plan_68 : decode cX11_plan 68 = .ok (.ireturn, 1) := by decide +kernel
theorem dX11_plan_69 : decode cX11_plan 69 = .ok (.iload_n 2, 1) := by decide +kernel
theorem dX11_plan_70 : decode cX11_plan 70 = .ok (.aload_n 0, 1) := by decide +kernel
theorem dX11_plan_71 : decode cX11_plan 71 = .ok (.getfield 53, 3) := by decide +kernel
theorem dX11_plan_74 : decode cX11_plan 74 = .ok (.getfield 202, 3) := by decide +kernel
theorem dX11_plan_77 : decode cX11_plan 77 = .ok (.if_icmp .ge 15, 3) := by decide +kernel
theorem dX11_plan_80 : decode cX11_plan 80 = .ok (.aload_n 0, 1) := by decide +kernel
theorem dX11_plan_81 : decode cX11_plan 81 = .ok (.getfield 53, 3) := by decide +kernel
theorem dX11_plan_84 : decode cX11_plan 84 = .ok (.getfield 205, 3) := by decide +kernel
theorem dX11_plan_87 : decode cX11_plan 87 = .ok (.iload_n 2, 1) := by decide +kernel
theorem dX11_plan_88 : decode cX11_plan 88 = .ok (.iaload, 1) := by decide +kernel
theorem dX11_plan_89 : decode cX11_plan 89 = .ok (.goto 5, 3) := by decide +kernel
theorem dX11_plan_92 : decode cX11_plan 92 = .ok (.bipush (-4), 2) := by decide +kernel
theorem dX11_plan_94 : decode cX11_plan 94 = .ok (.ireturn, 1) := by decide +kernel
