theorem dX0_init_0 : decode cX0_init 0 = .ok (.aload_n 0, 1) := by decide +kernel
theorem dX0_init_1 : decode cX0_init 1 = .ok (.invokespecial 3, 3) := by decide +kernel
theorem dX0_init_4 : decode cX0_init 4 = .ok (.aload_n 0, 1) := by decide +kernel
theorem dX0_init_5 : decode cX0_init 5 = .ok (.iconst 5, 1) := by decide +kernel
theorem dX0_init_6 : decode cX0_init 6 = .ok (.newarray .int, 2) := by decide +kernel
theorem dX0_init_8 : decode cX0_init 8 = .ok (.putfield 9, 3) := by decide +kernel
theorem dX0_init_11 : decode cX0_init 11 = .ok (.aload_n 0, 1) := by decide +kernel
theorem dX0_init_12 : decode cX0_init 12 = .ok (.iconst 5, 1) := by decide +kernel
theorem dX0_init_13 : decode cX0_init 13 = .ok (.newarray .int, 2) := by decide +kernel
theorem dX0_init_15 : decode cX0_init 15 = .ok (.putfield 15, 3) := by decide +kernel
theorem dX0_init_18 : decode cX0_init 18 = .ok (.aload_n 0, 1) := by decide +kernel
theorem dX0_init_19 : decode cX0_init 19 = .ok (.bipush 64, 2) := by decide +kernel
theorem dX0_init_21 : decode cX0_init 21 = .ok (.newarray .long, 2) := by decide +kernel
theorem dX0_init_23 : decode cX0_init 23 = .ok (.putfield 20, 3) := by decide +kernel
theorem dX0_init_26 : decode cX0_init 26 = .ok (.return_, 1) := by decide +kernel
theorem dX0_walk_0 : decode cX0_walk 0 = .ok (.aload_n 0, 1) := by decide +kernel
theorem dX0_walk_1 : decode cX0_walk 1 = .ok (.iconst 0, 1) := by decide +kernel
theorem dX0_walk_2 : decode cX0_walk 2 = .ok (.putfield 24, 3) := by decide +kernel
theorem dX0_walk_5 : decode cX0_walk 5 = .ok (.aload_n 0, 1) := by decide +kernel
theorem dX0_walk_6 : decode cX0_walk 6 = .ok (.iconst 0, 1) := by decide +kernel
theorem dX0_walk_7 : decode cX0_walk 7 = .ok (.putfield 28, 3) := by decide +kernel
theorem dX0_walk_10 : decode cX0_walk 10 = .ok (.iconst 0, 1) := by decide +kernel
theorem dX0_walk_11 : decode cX0_walk 11 = .ok (.istore 5, 2) := by decide +kernel
theorem dX0_walk_13 : decode cX0_walk 13 = .ok (.iload 5, 2) := by decide +kernel
theorem dX0_walk_15 : decode cX0_walk 15 = .ok (.aload_n 0, 1) := by decide +kernel
theorem dX0_walk_16 : decode cX0_walk 16 = .ok (.getfield 20, 3) := by decide +kernel
theorem dX0_walk_19 : decode cX0_walk 19 = .ok (.arraylength, 1) := by decide +kernel
theorem dX0_walk_20 : decode cX0_walk 20 = .ok (.if_icmp .ge 17, 3) := by decide +kernel
theorem dX0_walk_23 : decode cX0_walk 23 = .ok (.aload_n 0, 1) := by decide +kernel
theorem dX0_walk_24 : decode cX0_walk 24 = .ok (.getfield 20, 3) := by decide +kernel
theorem dX0_walk_27 : decode cX0_walk 27 = .ok (.iload 5, 2) := by decide +kernel
theorem dX0_walk_29 : decode cX0_walk 29 = .ok (.lconst 0, 1) := by decide +kernel
theorem dX0_walk_30 : decode cX0_walk 30 = .ok (.lastore, 1) := by decide +kernel
theorem dX0_walk_31 : decode cX0_walk 31 = .ok (.iinc 5 1, 3) := by decide +kernel
theorem dX0_walk_34 : decode cX0_walk 34 = .ok (.goto (-21), 3) := by decide +kernel
theorem dX0_walk_37 : decode cX0_walk 37 = .ok (.aload_n 0, 1) := by decide +kernel
theorem dX0_walk_38 : decode cX0_walk 38 = .ok (.aload_n 1, 1) := by decide +kernel
theorem dX0_walk_39 : decode cX0_walk 39 = .ok (.iload_n 2, 1) := by decide +kernel
theorem dX0_walk_40 : decode cX0_walk 40 = .ok (.iconst 0, 1) := by decide +kernel
theorem dX0_walk_41 : decode cX0_walk 41 = .ok (.iconst 0, 1) := by decide +kernel
theorem dX0_walk_42 : decode cX0_walk 42 = .ok (.iload_n 3, 1) := by decide +kernel
theorem dX0_walk_43 : decode cX0_walk 43 = .ok (.iload 4, 2) := by decide +kernel
theorem dX0_walk_45 : decode cX0_walk 45 = .ok (.invokevirtual 31, 3) := by decide +kernel
theorem dX0_walk_48 : decode cX0_walk 48 = .ok (.return_, 1) := by decide +kernel
theorem dX0_bathe_0 : decode cX0_bathe 0 = .ok (.iload 4, 2) := by decide +kernel
theorem dX0_bathe_2 : decode cX0_bathe 2 = .ok (.iload 5, 2) := by decide +kernel
theorem dX0_bathe_4 : decode cX0_bathe 4 = .ok (.if_icmp .ge 9, 3) := by decide +kernel
theorem dX0_bathe_7 : decode cX0_bathe 7 = .ok (.iload 4, 2) := by decide +kernel
theorem dX0_bathe_9 : decode cX0_bathe 9 = .ok (.iconst 5, 1) := by decide +kernel
theorem dX0_bathe_10 : decode cX0_bathe 10 = .ok (.if_icmp .lt 13, 3) := by decide +kernel
theorem dX0_bathe_13 : decode cX0_bathe 13 = .ok (.aload_n 0, 1) := by decide +kernel
theorem dX0_bathe_14 : decode cX0_bathe 14 = .ok (.iload_n 3, 1) := by decide +kernel
theorem dX0_bathe_15 : decode cX0_bathe 15 = .ok (.iload 5, 2) := by decide +kernel
theorem dX0_bathe_17 : decode cX0_bathe 17 = .ok (.iload 6, 2) := by decide +kernel
theorem dX0_bathe_19 : decode cX0_bathe 19 = .ok (.invokevirtual 35, 3) := by decide +kernel
theorem dX0_bathe_22 : decode cX0_bathe 22 = .ok (.return_, 1) := by decide +kernel
theorem dX0_bathe_23 : decode cX0_bathe 23 = .ok (.iconst 0, 1) := by decide +kernel
theorem dX0_bathe_24 : decode cX0_bathe 24 = .ok (.istore 7, 2) := by decide +kernel
theorem dX0_bathe_26 : decode cX0_bathe 26 = .ok (.iload 7, 2) := by decide +kernel
theorem dX0_bathe_28 : decode cX0_bathe 28 = .ok (.aload_n 1, 1) := by decide +kernel
theorem dX0_bathe_29 : decode cX0_bathe 29 = .ok (.getfield 39, 3) := by decide +kernel
theorem dX0_bathe_32 : decode cX0_bathe 32 = .ok (.if_icmp .ge 40, 3) := by decide +kernel
theorem dX0_bathe_35 : decode cX0_bathe 35 = .ok (.aload_n 0, 1) := by decide +kernel
theorem dX0_bathe_36 : decode cX0_bathe 36 = .ok (.getfield 15, 3) := by decide +kernel
theorem dX0_bathe_39 : decode cX0_bathe 39 = .ok (.iload 4, 2) := by decide +kernel
theorem dX0_bathe_41 : decode cX0_bathe 41 = .ok (.iload 7, 2) := by decide +kernel
theorem dX0_bathe_43 : decode cX0_bathe 43 = .ok (.iastore, 1) := by decide +kernel
theorem dX0_bathe_44 : decode cX0_bathe 44 = .ok (.aload_n 0, 1) := by decide +kernel
theorem dX0_bathe_45 : decode cX0_bathe 45 = .ok (.aload_n 1, 1) := by decide +kernel
theorem dX0_bathe_46 : decode cX0_bathe 46 = .ok (.iload_n 2, 1) := by decide +kernel
theorem dX0_bathe_47 : decode cX0_bathe 47 = .ok (.aload_n 1, 1) := by decide +kernel
theorem dX0_bathe_48 : decode cX0_bathe 48 = .ok (.iload_n 2, 1) := by decide +kernel
theorem dX0_bathe_49 : decode cX0_bathe 49 = .ok (.iload_n 3, 1) := by decide +kernel
theorem dX0_bathe_50 : decode cX0_bathe 50 = .ok (.iload 7, 2) := by decide +kernel
theorem dX0_bathe_52 : decode cX0_bathe 52 = .ok (.invokevirtual 44, 3) := by decide +kernel
theorem dX0_bathe_55 : decode cX0_bathe 55 = .ok (.iload 4, 2) := by decide +kernel
theorem dX0_bathe_57 : decode cX0_bathe 57 = .ok (.iconst 1, 1) := by decide +kernel
theorem dX0_bathe_58 : decode cX0_bathe 58 = .ok (.iadd, 1) := by decide +kernel
theorem dX0_bathe_59 : decode cX0_bathe 59 = .ok (.iload 5, 2) := by decide +kernel
theorem dX0_bathe_61 : decode cX0_bathe 61 = .ok (.iload 6, 2) := by decide +kernel
theorem dX0_bathe_63 : decode cX0_bathe 63 = .ok (.invokevirtual 31, 3) := by decide +kernel
theorem dX0_bathe_66 : decode cX0_bathe 66 = .ok (.iinc 7 1, 3) := by decide +kernel
theorem dX0_bathe_69 : decode cX0_bathe 69 = .ok (.goto (-43), 3) := by decide +kernel
theorem dX0_bathe_72 : decode cX0_bathe 72 = .ok (.return_, 1) := by decide +kernel
theorem dX0_note_0 : decode cX0_note 0 = .ok (.lconst 1, 1) := by decide +kernel
theorem dX0_note_1 : decode cX0_note 1 = .ok (.iload_n 1, 1) := by decide +kernel
theorem dX0_note_2 : decode cX0_note 2 = .ok (.bipush 63, 2) := by decide +kernel
theorem dX0_note_4 : decode cX0_note 4 = .ok (.iand, 1) := by decide +kernel
theorem dX0_note_5 : decode cX0_note 5 = .ok (.lshl, 1) := by decide +kernel
theorem dX0_note_6 : decode cX0_note 6 = .ok (.lstore 4, 2) := by decide +kernel
theorem dX0_note_8 : decode cX0_note 8 = .ok (.iload_n 1, 1) := by decide +kernel
theorem dX0_note_9 : decode cX0_note 9 = .ok (.bipush 6, 2) := by decide +kernel
theorem dX0_note_11 : decode cX0_note 11 = .ok (.ishr, 1) := by decide +kernel
theorem dX0_note_12 : decode cX0_note 12 = .ok (.istore 6, 2) := by decide +kernel
theorem dX0_note_14 : decode cX0_note 14 = .ok (.aload_n 0, 1) := by decide +kernel
theorem dX0_note_15 : decode cX0_note 15 = .ok (.getfield 20, 3) := by decide +kernel
theorem dX0_note_18 : decode cX0_note 18 = .ok (.iload 6, 2) := by decide +kernel
theorem dX0_note_20 : decode cX0_note 20 = .ok (.laload, 1) := by decide +kernel
theorem dX0_note_21 : decode cX0_note 21 = .ok (.lload 4, 2) := by decide +kernel
theorem dX0_note_23 : decode cX0_note 23 = .ok (.land, 1) := by decide +kernel
theorem dX0_note_24 : decode cX0_note 24 = .ok (.lconst 0, 1) := by decide +kernel
theorem dX0_note_25 : decode cX0_note 25 = .ok (.lcmp, 1) := by decide +kernel
theorem dX0_note_26 : decode cX0_note 26 = .ok (.ifCond .ne 25, 3) := by decide +kernel
theorem dX0_note_29 : decode cX0_note 29 = .ok (.aload_n 0, 1) := by decide +kernel
theorem dX0_note_30 : decode cX0_note 30 = .ok (.getfield 20, 3) := by decide +kernel
theorem dX0_note_33 : decode cX0_note 33 = .ok (.iload 6, 2) := by decide +kernel
theorem dX0_note_35 : decode cX0_note 35 = .ok (.dup2, 1) := by decide +kernel
theorem dX0_note_36 : decode cX0_note 36 = .ok (.laload, 1) := by decide +kernel
theorem dX0_note_37 : decode cX0_note 37 = .ok (.lload 4, 2) := by decide +kernel
theorem dX0_note_39 : decode cX0_note 39 = .ok (.lor, 1) := by decide +kernel
theorem dX0_note_40 : decode cX0_note 40 = .ok (.lastore, 1) := by decide +kernel
theorem dX0_note_41 : decode cX0_note 41 = .ok (.aload_n 0, 1) := by decide +kernel
theorem dX0_note_42 : decode cX0_note 42 = .ok (.dup, 1) := by decide +kernel
theorem dX0_note_43 : decode cX0_note 43 = .ok (.getfield 28, 3) := by decide +kernel
theorem dX0_note_46 : decode cX0_note 46 = .ok (.iconst 1, 1) := by decide +kernel
theorem dX0_note_47 : decode cX0_note 47 = .ok (.iadd, 1) := by decide +kernel
theorem dX0_note_48 : decode cX0_note 48 = .ok (.putfield 28, 3) := by decide +kernel
theorem dX0_note_51 : decode cX0_note 51 = .ok (.iload_n 1, 1) := by decide +kernel
theorem dX0_note_52 : decode cX0_note 52 = .ok (.iload_n 3, 1) := by decide +kernel
theorem dX0_note_53 : decode cX0_note 53 = .ok (.if_icmp .eq 4, 3) := by decide +kernel
theorem dX0_note_56 : decode cX0_note 56 = .ok (.return_, 1) := by decide +kernel
theorem dX0_note_57 : decode cX0_note 57 = .ok (.aload_n 0, 1) := by decide +kernel
theorem dX0_note_58 : decode cX0_note 58 = .ok (.getfield 24, 3) := by decide +kernel
theorem dX0_note_61 : decode cX0_note 61 = .ok (.ifCond .ne 17, 3) := by decide +kernel
theorem dX0_note_64 : decode cX0_note 64 = .ok (.aload_n 0, 1) := by decide +kernel
theorem dX0_note_65 : decode cX0_note 65 = .ok (.getfield 15, 3) := by decide +kernel
theorem dX0_note_68 : decode cX0_note 68 = .ok (.iconst 0, 1) := by decide +kernel
theorem dX0_note_69 : decode cX0_note 69 = .ok (.aload_n 0, 1) := by decide +kernel
theorem dX0_note_70 : decode cX0_note 70 = .ok (.getfield 9, 3) := by decide +kernel
theorem dX0_note_73 : decode cX0_note 73 = .ok (.iconst 0, 1) := by decide +kernel
theorem dX0_note_74 : decode cX0_note 74 = .ok (.iload_n 2, 1) := by decide +kernel
theorem dX0_note_75 : decode cX0_note 75 = .ok (.invokestatic 48, 3) := by decide +kernel
theorem dX0_note_78 : decode cX0_note 78 = .ok (.aload_n 0, 1) := by decide +kernel
theorem dX0_note_79 : decode cX0_note 79 = .ok (.dup, 1) := by decide +kernel
theorem dX0_note_80 : decode cX0_note 80 = .ok (.getfield 24, 3) := by decide +kernel
theorem dX0_note_83 : decode cX0_note 83 = .ok (.iconst 1, 1) := by decide +kernel
theorem dX0_note_84 : decode cX0_note 84 = .ok (.iadd, 1) := by decide +kernel
theorem dX0_note_85 : decode cX0_note 85 = .ok (.putfield 24, 3) := by decide +kernel
theorem dX0_note_88 : decode cX0_note 88 = .ok (.return_, 1) := by decide +kernel
theorem dX1_init_0 : decode cX1_init 0 = .ok (.aload_n 0, 1) := by decide +kernel
theorem dX1_init_1 : decode cX1_init 1 = .ok (.invokespecial 3, 3) := by decide +kernel
theorem dX1_init_4 : decode cX1_init 4 = .ok (.aload_n 0, 1) := by decide +kernel
theorem dX1_init_5 : decode cX1_init 5 = .ok (.bipush 9, 2) := by decide +kernel
theorem dX1_init_7 : decode cX1_init 7 = .ok (.newarray .int, 2) := by decide +kernel
theorem dX1_init_9 : decode cX1_init 9 = .ok (.putfield 11, 3) := by decide +kernel
theorem dX1_init_12 : decode cX1_init 12 = .ok (.aload_n 0, 1) := by decide +kernel
theorem dX1_init_13 : decode cX1_init 13 = .ok (.bipush 8, 2) := by decide +kernel
theorem dX1_init_15 : decode cX1_init 15 = .ok (.newarray .int, 2) := by decide +kernel
theorem dX1_init_17 : decode cX1_init 17 = .ok (.putfield 17, 3) := by decide +kernel
theorem dX1_init_20 : decode cX1_init 20 = .ok (.return_, 1) := by decide +kernel
theorem dX1_crack_0 : decode cX1_crack 0 = .ok (.iconst 0, 1) := by decide +kernel
theorem dX1_crack_1 : decode cX1_crack 1 = .ok (.istore 5, 2) := by decide +kernel
theorem dX1_crack_3 : decode cX1_crack 3 = .ok (.iload 5, 2) := by decide +kernel
theorem dX1_crack_5 : decode cX1_crack 5 = .ok (.aload_n 0, 1) := by decide +kernel
theorem dX1_crack_6 : decode cX1_crack 6 = .ok (.getfield 11, 3) := by decide +kernel
theorem dX1_crack_9 : decode cX1_crack 9 = .ok (.arraylength, 1) := by decide +kernel
theorem dX1_crack_10 : decode cX1_crack 10 = .ok (.if_icmp .ge 17, 3) := by decide +kernel
theorem dX1_crack_13 : decode cX1_crack 13 = .ok (.aload_n 0, 1) := by decide +kernel
theorem dX1_crack_14 : decode cX1_crack 14 = .ok (.getfield 11, 3) := by decide +kernel
theorem dX1_crack_17 : decode cX1_crack 17 = .ok (.iload 5, 2) := by decide +kernel
theorem dX1_crack_19 : decode cX1_crack 19 = .ok (.iconst 0, 1) := by decide +kernel
theorem dX1_crack_20 : decode cX1_crack 20 = .ok (.iastore, 1) := by decide +kernel
theorem dX1_crack_21 : decode cX1_crack 21 = .ok (.iinc 5 1, 3) := by decide +kernel
theorem dX1_crack_24 : decode cX1_crack 24 = .ok (.goto (-21), 3) := by decide +kernel
theorem dX1_crack_27 : decode cX1_crack 27 = .ok (.aload_n 0, 1) := by decide +kernel
theorem dX1_crack_28 : decode cX1_crack 28 = .ok (.getfield 11, 3) := by decide +kernel
theorem dX1_crack_31 : decode cX1_crack 31 = .ok (.iconst 0, 1) := by decide +kernel
theorem dX1_crack_32 : decode cX1_crack 32 = .ok (.iconst 1, 1) := by decide +kernel
theorem dX1_crack_33 : decode cX1_crack 33 = .ok (.iastore, 1) := by decide +kernel
theorem dX1_crack_34 : decode cX1_crack 34 = .ok (.iconst 1, 1) := by decide +kernel
theorem dX1_crack_35 : decode cX1_crack 35 = .ok (.istore 5, 2) := by decide +kernel
theorem dX1_crack_37 : decode cX1_crack 37 = .ok (.iconst 0, 1) := by decide +kernel
theorem dX1_crack_38 : decode cX1_crack 38 = .ok (.istore 6, 2) := by decide +kernel
theorem dX1_crack_40 : decode cX1_crack 40 = .ok (.iload 6, 2) := by decide +kernel
theorem dX1_crack_42 : decode cX1_crack 42 = .ok (.aload_n 1, 1) := by decide +kernel
theorem dX1_crack_43 : decode cX1_crack 43 = .ok (.getfield 20, 3) := by decide +kernel
theorem dX1_crack_46 : decode cX1_crack 46 = .ok (.if_icmp .ge 131, 3) := by decide +kernel
theorem dX1_crack_49 : decode cX1_crack 49 = .ok (.aload_n 1, 1) := by decide +kernel
theorem dX1_crack_50 : decode cX1_crack 50 = .ok (.getfield 24, 3) := by decide +kernel
theorem dX1_crack_53 : decode cX1_crack 53 = .ok (.iload 6, 2) := by decide +kernel
theorem dX1_crack_55 : decode cX1_crack 55 = .ok (.iaload, 1) := by decide +kernel
theorem dX1_crack_56 : decode cX1_crack 56 = .ok (.istore 7, 2) := by decide +kernel
theorem dX1_crack_58 : decode cX1_crack 58 = .ok (.iload 7, 2) := by decide +kernel
theorem dX1_crack_60 : decode cX1_crack 60 = .ok (.invokestatic 25, 3) := by decide +kernel
theorem dX1_crack_63 : decode cX1_crack 63 = .ok (.ifCond .le 7, 3) := by decide +kernel
theorem dX1_crack_66 : decode cX1_crack 66 = .ok (.iconst 1, 1) := by decide +kernel
theorem dX1_crack_67 : decode cX1_crack 67 = .ok (.goto 4, 3) := by decide +kernel
theorem dX1_crack_70 : decode cX1_crack 70 = .ok (.iconst 0, 1) := by decide +kernel
theorem dX1_crack_71 : decode cX1_crack 71 = .ok (.istore 8, 2) := by decide +kernel
theorem dX1_crack_73 : decode cX1_crack 73 = .ok (.iload 8, 2) := by decide +kernel
theorem dX1_crack_75 : decode cX1_crack 75 = .ok (.ifCond .eq 8, 3) := by decide +kernel
theorem dX1_crack_78 : decode cX1_crack 78 = .ok (.iload 4, 2) := by decide +kernel
theorem dX1_crack_80 : decode cX1_crack 80 = .ok (.goto 4, 3) := by decide +kernel
theorem dX1_crack_83 : decode cX1_crack 83 = .ok (.iconst 1, 1) := by decide +kernel
theorem dX1_crack_84 : decode cX1_crack 84 = .ok (.istore 9, 2) := by decide +kernel
theorem dX1_crack_86 : decode cX1_crack 86 = .ok (.iload 8, 2) := by decide +kernel
theorem dX1_crack_88 : decode cX1_crack 88 = .ok (.ifCond .eq 11, 3) := by decide +kernel
theorem dX1_crack_91 : decode cX1_crack 91 = .ok (.bipush 10, 2) := by decide +kernel
theorem dX1_crack_93 : decode cX1_crack 93 = .ok (.iload 4, 2) := by decide +kernel
theorem dX1_crack_95 : decode cX1_crack 95 = .ok (.isub, 1) := by decide +kernel
theorem dX1_crack_96 : decode cX1_crack 96 = .ok (.goto 4, 3) := by decide +kernel
theorem dX1_crack_99 : decode cX1_crack 99 = .ok (.iconst 0, 1) := by decide +kernel
theorem dX1_crack_100 : decode cX1_crack 100 = .ok (.istore 10, 2) := by decide +kernel
theorem dX1_crack_102 : decode cX1_crack 102 = .ok (.aload_n 1, 1) := by decide +kernel
theorem dX1_crack_103 : decode cX1_crack 103 = .ok (.iload 6, 2) := by decide +kernel
theorem dX1_crack_105 : decode cX1_crack 105 = .ok (.aload_n 1, 1) := by decide +kernel
theorem dX1_crack_106 : decode cX1_crack 106 = .ok (.iload 6, 2) := by decide +kernel
theorem dX1_crack_108 : decode cX1_crack 108 = .ok (.iload 7, 2) := by decide +kernel
theorem dX1_crack_110 : decode cX1_crack 110 = .ok (.iload_n 2, 1) := by decide +kernel
theorem dX1_crack_111 : decode cX1_crack 111 = .ok (.invokevirtual 31, 3) := by decide +kernel
theorem dX1_crack_114 : decode cX1_crack 114 = .ok (.invokevirtual 35, 3) := by decide +kernel
theorem dX1_crack_117 : decode cX1_crack 117 = .ok (.istore 11, 2) := by decide +kernel
theorem dX1_crack_119 : decode cX1_crack 119 = .ok (.aload_n 1, 1) := by decide +kernel
theorem dX1_crack_120 : decode cX1_crack 120 = .ok (.iload 6, 2) := by decide +kernel
theorem dX1_crack_122 : decode cX1_crack 122 = .ok (.iload 7, 2) := by decide +kernel
theorem dX1_crack_124 : decode cX1_crack 124 = .ok (.invokevirtual 35, 3) := by decide +kernel
theorem dX1_crack_127 : decode cX1_crack 127 = .ok (.istore 12, 2) := by decide +kernel
theorem dX1_crack_129 : decode cX1_crack 129 = .ok (.aload_n 0, 1) := by decide +kernel
theorem dX1_crack_130 : decode cX1_crack 130 = .ok (.iload 11, 2) := by decide +kernel
theorem dX1_crack_132 : decode cX1_crack 132 = .ok (.ifCond .eq 8, 3) := by decide +kernel
theorem dX1_crack_135 : decode cX1_crack 135 = .ok (.iload 9, 2) := by decide +kernel
theorem dX1_crack_137 : decode cX1_crack 137 = .ok (.goto 4, 3) := by decide +kernel
theorem dX1_crack_140 : decode cX1_crack 140 = .ok (.iconst 0, 1) := by decide +kernel
theorem dX1_crack_141 : decode cX1_crack 141 = .ok (.iload 12, 2) := by decide +kernel
theorem dX1_crack_143 : decode cX1_crack 143 = .ok (.ifCond .eq 8, 3) := by decide +kernel
theorem dX1_crack_146 : decode cX1_crack 146 = .ok (.iload 10, 2) := by decide +kernel
theorem dX1_crack_148 : decode cX1_crack 148 = .ok (.goto 4, 3) := by decide +kernel
theorem dX1_crack_151 : decode cX1_crack 151 = .ok (.iconst 0, 1) := by decide +kernel
theorem dX1_crack_152 : decode cX1_crack 152 = .ok (.iadd, 1) := by decide +kernel
theorem dX1_crack_153 : decode cX1_crack 153 = .ok (.iload 9, 2) := by decide +kernel
theorem dX1_crack_155 : decode cX1_crack 155 = .ok (.iload 10, 2) := by decide +kernel
theorem dX1_crack_157 : decode cX1_crack 157 = .ok (.iadd, 1) := by decide +kernel
theorem dX1_crack_158 : decode cX1_crack 158 = .ok (.invokevirtual 39, 3) := by decide +kernel
theorem dX1_crack_161 : decode cX1_crack 161 = .ok (.iload 5, 2) := by decide +kernel
theorem dX1_crack_163 : decode cX1_crack 163 = .ok (.iload 9, 2) := by decide +kernel
theorem dX1_crack_165 : decode cX1_crack 165 = .ok (.iload 10, 2) := by decide +kernel
theorem dX1_crack_167 : decode cX1_crack 167 = .ok (.iadd, 1) := by decide +kernel
theorem dX1_crack_168 : decode cX1_crack 168 = .ok (.imul, 1) := by decide +kernel
theorem dX1_crack_169 : decode cX1_crack 169 = .ok (.istore 5, 2) := by decide +kernel
theorem dX1_crack_171 : decode cX1_crack 171 = .ok (.iinc 6 1, 3) := by decide +kernel
theorem dX1_crack_174 : decode cX1_crack 174 = .ok (.goto (-134), 3) := by decide +kernel
theorem dX1_crack_177 : decode cX1_crack 177 = .ok (.iconst 0, 1) := by decide +kernel
theorem dX1_crack_178 : decode cX1_crack 178 = .ok (.istore 6, 2) := by decide +kernel
theorem dX1_crack_180 : decode cX1_crack 180 = .ok (.iload_n 3, 1) := by decide +kernel
theorem dX1_crack_181 : decode cX1_crack 181 = .ok (.istore 7, 2) := by decide +kernel
theorem dX1_crack_183 : decode cX1_crack 183 = .ok (.iload 7, 2) := by decide +kernel
theorem dX1_crack_185 : decode cX1_crack 185 = .ok (.aload_n 0, 1) := by decide +kernel
theorem dX1_crack_186 : decode cX1_crack 186 = .ok (.getfield 11, 3) := by decide +kernel
theorem dX1_crack_189 : decode cX1_crack 189 = .ok (.arraylength, 1) := by decide +kernel
theorem dX1_crack_190 : decode cX1_crack 190 = .ok (.if_icmp .ge 21, 3) := by decide +kernel
theorem dX1_crack_193 : decode cX1_crack 193 = .ok (.iload 6, 2) := by decide +kernel
theorem dX1_crack_195 : decode cX1_crack 195 = .ok (.aload_n 0, 1) := by decide +kernel
theorem dX1_crack_196 : decode cX1_crack 196 = .ok (.getfield 11, 3) := by decide +kernel
theorem dX1_crack_199 : decode cX1_crack 199 = .ok (.iload 7, 2) := by decide +kernel
theorem dX1_crack_201 : decode cX1_crack 201 = .ok (.iaload, 1) := by decide +kernel
theorem dX1_crack_202 : decode cX1_crack 202 = .ok (.iadd, 1) := by decide +kernel
theorem dX1_crack_203 : decode cX1_crack 203 = .ok (.istore 6, 2) := by decide +kernel
theorem dX1_crack_205 : decode cX1_crack 205 = .ok (.iinc 7 1, 3) := by decide +kernel
theorem dX1_crack_208 : decode cX1_crack 208 = .ok (.goto (-25), 3) := by decide +kernel
theorem dX1_crack_211 : decode cX1_crack 211 = .ok (.iload 5, 2) := by decide +kernel
theorem dX1_crack_213 : decode cX1_crack 213 = .ok (.iload 6, 2) := by decide +kernel
theorem dX1_crack_215 : decode cX1_crack 215 = .ok (.invokestatic 43, 3) := by decide +kernel
theorem dX1_crack_218 : decode cX1_crack 218 = .ok (.istore 7, 2) := by decide +kernel
theorem dX1_crack_220 : decode cX1_crack 220 = .ok (.aload_n 0, 1) := by decide +kernel
theorem dX1_crack_221 : decode cX1_crack 221 = .ok (.iload 6, 2) := by decide +kernel
theorem dX1_crack_223 : decode cX1_crack 223 = .ok (.iload 7, 2) := by decide +kernel
theorem dX1_crack_225 : decode cX1_crack 225 = .ok (.idiv, 1) := by decide +kernel
theorem dX1_crack_226 : decode cX1_crack 226 = .ok (.putfield 47, 3) := by decide +kernel
theorem dX1_crack_229 : decode cX1_crack 229 = .ok (.aload_n 0, 1) := by decide +kernel
theorem dX1_crack_230 : decode cX1_crack 230 = .ok (.iload 5, 2) := by decide +kernel
theorem dX1_crack_232 : decode cX1_crack 232 = .ok (.iload 7, 2) := by decide +kernel
theorem dX1_crack_234 : decode cX1_crack 234 = .ok (.idiv, 1) := by decide +kernel
theorem dX1_crack_235 : decode cX1_crack 235 = .ok (.putfield 50, 3) := by decide +kernel
theorem dX1_crack_238 : decode cX1_crack 238 = .ok (.return_, 1) := by decide +kernel
theorem dX1_weigh_0 : decode cX1_weigh 0 = .ok (.aload_n 0, 1) := by decide +kernel
theorem dX1_weigh_1 : decode cX1_weigh 1 = .ok (.getfield 11, 3) := by decide +kernel
theorem dX1_weigh_4 : decode cX1_weigh 4 = .ok (.arraylength, 1) := by decide +kernel
theorem dX1_weigh_5 : decode cX1_weigh 5 = .ok (.iconst 1, 1) := by decide +kernel
theorem dX1_weigh_6 : decode cX1_weigh 6 = .ok (.isub, 1) := by decide +kernel
theorem dX1_weigh_7 : decode cX1_weigh 7 = .ok (.istore_n 3, 1) := by decide +kernel
theorem dX1_weigh_8 : decode cX1_weigh 8 = .ok (.iload_n 3, 1) := by decide +kernel
theorem dX1_weigh_9 : decode cX1_weigh 9 = .ok (.ifCond .lt 48, 3) := by decide +kernel
theorem dX1_weigh_12 : decode cX1_weigh 12 = .ok (.iload_n 3, 1) := by decide +kernel
theorem dX1_weigh_13 : decode cX1_weigh 13 = .ok (.ifCond .le 16, 3) := by decide +kernel
theorem dX1_weigh_16 : decode cX1_weigh 16 = .ok (.aload_n 0, 1) := by decide +kernel
theorem dX1_weigh_17 : decode cX1_weigh 17 = .ok (.getfield 11, 3) := by decide +kernel
theorem dX1_weigh_20 : decode cX1_weigh 20 = .ok (.iload_n 3, 1) := by decide +kernel
theorem dX1_weigh_21 : decode cX1_weigh 21 = .ok (.iconst 1, 1) := by decide +kernel
theorem dX1_weigh_22 : decode cX1_weigh 22 = .ok (.isub, 1) := by decide +kernel
theorem dX1_weigh_23 : decode cX1_weigh 23 = .ok (.iaload, 1) := by decide +kernel
theorem dX1_weigh_24 : decode cX1_weigh 24 = .ok (.iload_n 1, 1) := by decide +kernel
theorem dX1_weigh_25 : decode cX1_weigh 25 = .ok (.imul, 1) := by decide +kernel
theorem dX1_weigh_26 : decode cX1_weigh 26 = .ok (.goto 4, 3) := by decide +kernel
theorem dX1_weigh_29 : decode cX1_weigh 29 = .ok (.iconst 0, 1) := by decide +kernel
theorem dX1_weigh_30 : decode cX1_weigh 30 = .ok (.istore 4, 2) := by decide +kernel
theorem dX1_weigh_32 : decode cX1_weigh 32 = .ok (.aload_n 0, 1) := by decide +kernel
theorem dX1_weigh_33 : decode cX1_weigh 33 = .ok (.getfield 11, 3) := by decide +kernel
theorem dX1_weigh_36 : decode cX1_weigh 36 = .ok (.iload_n 3, 1) := by decide +kernel
theorem dX1_weigh_37 : decode cX1_weigh 37 = .ok (.aload_n 0, 1) := by decide +kernel
theorem dX1_weigh_38 : decode cX1_weigh 38 = .ok (.getfield 11, 3) := by decide +kernel
theorem dX1_weigh_41 : decode cX1_weigh 41 = .ok (.iload_n 3, 1) := by decide +kernel
theorem dX1_weigh_42 : decode cX1_weigh 42 = .ok (.iaload, 1) := by decide +kernel
theorem dX1_weigh_43 : decode cX1_weigh 43 = .ok (.iload_n 2, 1) := by decide +kernel
theorem dX1_weigh_44 : decode cX1_weigh 44 = .ok (.iload_n 1, 1) := by decide +kernel
theorem dX1_weigh_45 : decode cX1_weigh 45 = .ok (.isub, 1) := by decide +kernel
theorem dX1_weigh_46 : decode cX1_weigh 46 = .ok (.imul, 1) := by decide +kernel
theorem dX1_weigh_47 : decode cX1_weigh 47 = .ok (.iload 4, 2) := by decide +kernel
theorem dX1_weigh_49 : decode cX1_weigh 49 = .ok (.iadd, 1) := by decide +kernel
theorem dX1_weigh_50 : decode cX1_weigh 50 = .ok (.iastore, 1) := by decide +kernel
theorem dX1_weigh_51 : decode cX1_weigh 51 = .ok (.iinc 3 (-1), 3) := by decide +kernel
theorem dX1_weigh_54 : decode cX1_weigh 54 = .ok (.goto (-46), 3) := by decide +kernel
theorem dX1_weigh_57 : decode cX1_weigh 57 = .ok (.return_, 1) := by decide +kernel
theorem dX1_draw_0 : decode cX1_draw 0 = .ok (.aload_n 1, 1) := by decide +kernel
theorem dX1_draw_1 : decode cX1_draw 1 = .ok (.getfield 24, 3) := by decide +kernel
theorem dX1_draw_4 : decode cX1_draw 4 = .ok (.iconst 0, 1) := by decide +kernel
theorem dX1_draw_5 : decode cX1_draw 5 = .ok (.aload_n 0, 1) := by decide +kernel
theorem dX1_draw_6 : decode cX1_draw 6 = .ok (.getfield 17, 3) := by decide +kernel
theorem dX1_draw_9 : decode cX1_draw 9 = .ok (.iconst 0, 1) := by decide +kernel
theorem dX1_draw_10 : decode cX1_draw 10 = .ok (.bipush 8, 2) := by decide +kernel
theorem dX1_draw_12 : decode cX1_draw 12 = .ok (.invokestatic 53, 3) := by decide +kernel
theorem dX1_draw_15 : decode cX1_draw 15 = .ok (.aload_n 0, 1) := by decide +kernel
theorem dX1_draw_16 : decode cX1_draw 16 = .ok (.iconst 0, 1) := by decide +kernel
theorem dX1_draw_17 : decode cX1_draw 17 = .ok (.putfield 59, 3) := by decide +kernel
theorem dX1_draw_20 : decode cX1_draw 20 = .ok (.iload_n 3, 1) := by decide +kernel
theorem dX1_draw_21 : decode cX1_draw 21 = .ok (.i2l, 1) := by decide +kernel
theorem dX1_draw_22 : decode cX1_draw 22 = .ok (.lstore 4, 2) := by decide +kernel
theorem dX1_draw_24 : decode cX1_draw 24 = .ok (.iconst 0, 1) := by decide +kernel
theorem dX1_draw_25 : decode cX1_draw 25 = .ok (.istore 6, 2) := by decide +kernel
theorem dX1_draw_27 : decode cX1_draw 27 = .ok (.iload 6, 2) := by decide +kernel
theorem dX1_draw_29 : decode cX1_draw 29 = .ok (.iload_n 2, 1) := by decide +kernel
theorem dX1_draw_30 : decode cX1_draw 30 = .ok (.if_icmp .ge 72, 3) := by decide +kernel
theorem dX1_draw_33 : decode cX1_draw 33 = .ok (.ldc2_w 62, 3) := by decide +kernel
theorem dX1_draw_36 : decode cX1_draw 36 = .ok (.lload 4, 2) := by decide +kernel
theorem dX1_draw_38 : decode cX1_draw 38 = .ok (.lmul, 1) := by decide +kernel
theorem dX1_draw_39 : decode cX1_draw 39 = .ok (.ldc2_w 64, 3) := by decide +kernel
theorem dX1_draw_42 : decode cX1_draw 42 = .ok (.lrem, 1) := by decide +kernel
theorem dX1_draw_43 : decode cX1_draw 43 = .ok (.lstore 4, 2) := by decide +kernel
theorem dX1_draw_45 : decode cX1_draw 45 = .ok (.lload 4, 2) := by decide +kernel
theorem dX1_draw_47 : decode cX1_draw 47 = .ok (.ldc2_w 66, 3) := by decide +kernel
theorem dX1_draw_50 : decode cX1_draw 50 = .ok (.ldiv, 1) := by decide +kernel
theorem dX1_draw_51 : decode cX1_draw 51 = .ok (.aload_n 1, 1) := by decide +kernel
theorem dX1_draw_52 : decode cX1_draw 52 = .ok (.invokevirtual 68, 3) := by decide +kernel
theorem dX1_draw_55 : decode cX1_draw 55 = .ok (.i2l, 1) := by decide +kernel
theorem dX1_draw_56 : decode cX1_draw 56 = .ok (.lrem, 1) := by decide +kernel
theorem dX1_draw_57 : decode cX1_draw 57 = .ok (.l2i, 1) := by decide +kernel
theorem dX1_draw_58 : decode cX1_draw 58 = .ok (.istore 7, 2) := by decide +kernel
theorem dX1_draw_60 : decode cX1_draw 60 = .ok (.aload_n 1, 1) := by decide +kernel
theorem dX1_draw_61 : decode cX1_draw 61 = .ok (.aload_n 1, 1) := by decide +kernel
theorem dX1_draw_62 : decode cX1_draw 62 = .ok (.iload 7, 2) := by decide +kernel
theorem dX1_draw_64 : decode cX1_draw 64 = .ok (.invokevirtual 72, 3) := by decide +kernel
theorem dX1_draw_67 : decode cX1_draw 67 = .ok (.aload_n 0, 1) := by decide +kernel
theorem dX1_draw_68 : decode cX1_draw 68 = .ok (.getfield 17, 3) := by decide +kernel
theorem dX1_draw_71 : decode cX1_draw 71 = .ok (.aload_n 0, 1) := by decide +kernel
theorem dX1_draw_72 : decode cX1_draw 72 = .ok (.getfield 17, 3) := by decide +kernel
theorem dX1_draw_75 : decode cX1_draw 75 = .ok (.invokevirtual 75, 3) := by decide +kernel
theorem dX1_draw_78 : decode cX1_draw 78 = .ok (.pop, 1) := by decide +kernel
theorem dX1_draw_79 : decode cX1_draw 79 = .ok (.aload_n 0, 1) := by decide +kernel
theorem dX1_draw_80 : decode cX1_draw 80 = .ok (.dup, 1) := by decide +kernel
theorem dX1_draw_81 : decode cX1_draw 81 = .ok (.getfield 59, 3) := by decide +kernel
theorem dX1_draw_84 : decode cX1_draw 84 = .ok (.aload_n 1, 1) := by decide +kernel
theorem dX1_draw_85 : decode cX1_draw 85 = .ok (.aload_n 0, 1) := by decide +kernel
theorem dX1_draw_86 : decode cX1_draw 86 = .ok (.getfield 17, 3) := by decide +kernel
theorem dX1_draw_89 : decode cX1_draw 89 = .ok (.invokevirtual 79, 3) := by decide +kernel
theorem dX1_draw_92 : decode cX1_draw 92 = .ok (.iadd, 1) := by decide +kernel
theorem dX1_draw_93 : decode cX1_draw 93 = .ok (.putfield 59, 3) := by decide +kernel
theorem dX1_draw_96 : decode cX1_draw 96 = .ok (.iinc 6 1, 3) := by decide +kernel
theorem dX1_draw_99 : decode cX1_draw 99 = .ok (.goto (-72), 3) := by decide +kernel
theorem dX1_draw_102 : decode cX1_draw 102 = .ok (.aload_n 0, 1) := by decide +kernel
theorem dX1_draw_103 : decode cX1_draw 103 = .ok (.aload_n 1, 1) := by decide +kernel
theorem dX1_draw_104 : decode cX1_draw 104 = .ok (.aload_n 0, 1) := by decide +kernel
theorem dX1_draw_105 : decode cX1_draw 105 = .ok (.getfield 17, 3) := by decide +kernel
theorem dX1_draw_108 : decode cX1_draw 108 = .ok (.invokevirtual 83, 3) := by decide +kernel
theorem dX1_draw_111 : decode cX1_draw 111 = .ok (.putfield 86, 3) := by decide +kernel
theorem dX1_draw_114 : decode cX1_draw 114 = .ok (.return_, 1) := by decide +kernel
theorem dX1_greatestCommon_0 : decode cX1_greatestCommon 0 = .ok (.iload_n 0, 1) := by decide +kernel
theorem dX1_greatestCommon_1 : decode cX1_greatestCommon 1 = .ok (.istore_n 2, 1) := by decide +kernel
theorem dX1_greatestCommon_2 : decode cX1_greatestCommon 2 = .ok (.iload_n 1, 1) := by decide +kernel
theorem dX1_greatestCommon_3 : decode cX1_greatestCommon 3 = .ok (.istore_n 3, 1) := by decide +kernel
theorem dX1_greatestCommon_4 : decode cX1_greatestCommon 4 = .ok (.iconst 0, 1) := by decide +kernel
theorem dX1_greatestCommon_5 : decode cX1_greatestCommon 5 = .ok (.istore 4, 2) := by decide +kernel
theorem dX1_greatestCommon_7 : decode cX1_greatestCommon 7 = .ok (.iload_n 3, 1) := by decide +kernel
theorem dX1_greatestCommon_8 : decode cX1_greatestCommon 8 = .ok (.ifCond .eq 26, 3) := by decide +kernel
theorem dX1_greatestCommon_11 : decode cX1_greatestCommon 11 = .ok (.iload 4, 2) := by decide +kernel
theorem dX1_greatestCommon_13 : decode cX1_greatestCommon 13 = .ok (.bipush 100, 2) := by decide +kernel
theorem dX1_greatestCommon_15 : decode cX1_greatestCommon 15 = .ok (.if_icmp .ge 19, 3) := by decide +kernel
theorem dX1_greatestCommon_18 : decode cX1_greatestCommon 18 = .ok (.iload_n 2, 1) := by decide +kernel
theorem dX1_greatestCommon_19 : decode cX1_greatestCommon 19 = .ok (.iload_n 3, 1) := by decide +kernel
theorem dX1_greatestCommon_20 : decode cX1_greatestCommon 20 = .ok (.irem, 1) := by decide +kernel
theorem dX1_greatestCommon_21 : decode cX1_greatestCommon 21 = .ok (.istore 5, 2) := by decide +kernel
theorem dX1_greatestCommon_23 : decode cX1_greatestCommon 23 = .ok (.iload_n 3, 1) := by decide +kernel
theorem dX1_greatestCommon_24 : decode cX1_greatestCommon 24 = .ok (.istore_n 2, 1) := by decide +kernel
theorem dX1_greatestCommon_25 : decode cX1_greatestCommon 25 = .ok (.iload 5, 2) := by decide +kernel
theorem dX1_greatestCommon_27 : decode cX1_greatestCommon 27 = .ok (.istore_n 3, 1) := by decide +kernel
theorem dX1_greatestCommon_28 : decode cX1_greatestCommon 28 = .ok (.iinc 4 1, 3) := by decide +kernel
theorem dX1_greatestCommon_31 : decode cX1_greatestCommon 31 = .ok (.goto (-24), 3) := by decide +kernel
theorem dX1_greatestCommon_34 : decode cX1_greatestCommon 34 = .ok (.iload_n 2, 1) := by decide +kernel
theorem dX1_greatestCommon_35 : decode cX1_greatestCommon 35 = .ok (.iconst 1, 1) := by decide +kernel
theorem dX1_greatestCommon_36 : decode cX1_greatestCommon 36 = .ok (.invokestatic 89, 3) := by decide +kernel
theorem dX1_greatestCommon_39 : decode cX1_greatestCommon 39 = .ok (.ireturn, 1) := by decide +kernel
theorem dX2_init_0 : decode cX2_init 0 = .ok (.aload_n 0, 1) := by decide +kernel
theorem dX2_init_1 : decode cX2_init 1 = .ok (.invokespecial 1, 3) := by decide +kernel
theorem dX2_init_4 : decode cX2_init 4 = .ok (.aload_n 0, 1) := by decide +kernel
theorem dX2_init_5 : decode cX2_init 5 = .ok (.bipush 8, 2) := by decide +kernel
theorem dX2_init_7 : decode cX2_init 7 = .ok (.newarray .int, 2) := by decide +kernel
theorem dX2_init_9 : decode cX2_init 9 = .ok (.putfield 9, 3) := by decide +kernel
theorem dX2_init_12 : decode cX2_init 12 = .ok (.aload_n 0, 1) := by decide +kernel
theorem dX2_init_13 : decode cX2_init 13 = .ok (.bipush 8, 2) := by decide +kernel
theorem dX2_init_15 : decode cX2_init 15 = .ok (.newarray .int, 2) := by decide +kernel
theorem dX2_init_17 : decode cX2_init 17 = .ok (.putfield 13, 3) := by decide +kernel
theorem dX2_init_20 : decode cX2_init 20 = .ok (.aload_n 0, 1) := by decide +kernel
theorem dX2_init_21 : decode cX2_init 21 = .ok (.bipush 8, 2) := by decide +kernel
theorem dX2_init_23 : decode cX2_init 23 = .ok (.newarray .int, 2) := by decide +kernel
theorem dX2_init_25 : decode cX2_init 25 = .ok (.putfield 16, 3) := by decide +kernel
theorem dX2_init_28 : decode cX2_init 28 = .ok (.aload_n 0, 1) := by decide +kernel
theorem dX2_init_29 : decode cX2_init 29 = .ok (.bipush 12, 2) := by decide +kernel
theorem dX2_init_31 : decode cX2_init 31 = .ok (.newarray .int, 2) := by decide +kernel
theorem dX2_init_33 : decode cX2_init 33 = .ok (.putfield 21, 3) := by decide +kernel
theorem dX2_init_36 : decode cX2_init 36 = .ok (.aload_n 0, 1) := by decide +kernel
theorem dX2_init_37 : decode cX2_init 37 = .ok (.iconst 3, 1) := by decide +kernel
theorem dX2_init_38 : decode cX2_init 38 = .ok (.newarray .int, 2) := by decide +kernel
theorem dX2_init_40 : decode cX2_init 40 = .ok (.putfield 24, 3) := by decide +kernel
theorem dX2_init_43 : decode cX2_init 43 = .ok (.return_, 1) := by decide +kernel
theorem dX2_stands_0 : decode cX2_stands 0 = .ok (.aload_n 0, 1) := by decide +kernel
theorem dX2_stands_1 : decode cX2_stands 1 = .ok (.getfield 27, 3) := by decide +kernel
theorem dX2_stands_4 : decode cX2_stands 4 = .ok (.ifCond .le 7, 3) := by decide +kernel
theorem dX2_stands_7 : decode cX2_stands 7 = .ok (.iconst 1, 1) := by decide +kernel
theorem dX2_stands_8 : decode cX2_stands 8 = .ok (.goto 4, 3) := by decide +kernel
theorem dX2_stands_11 : decode cX2_stands 11 = .ok (.iconst 0, 1) := by decide +kernel
theorem dX2_stands_12 : decode cX2_stands 12 = .ok (.ireturn, 1) := by decide +kernel
theorem dX2_become_0 : decode cX2_become 0 = .ok (.aload_n 0, 1) := by decide +kernel
theorem dX2_become_1 : decode cX2_become 1 = .ok (.aload_n 1, 1) := by decide +kernel
theorem dX2_become_2 : decode cX2_become 2 = .ok (.getfield 27, 3) := by decide +kernel
theorem dX2_become_5 : decode cX2_become 5 = .ok (.putfield 27, 3) := by decide +kernel
theorem dX2_become_8 : decode cX2_become 8 = .ok (.aload_n 0, 1) := by decide +kernel
theorem dX2_become_9 : decode cX2_become 9 = .ok (.aload_n 1, 1) := by decide +kernel
theorem dX2_become_10 : decode cX2_become 10 = .ok (.getfield 31, 3) := by decide +kernel
theorem dX2_become_13 : decode cX2_become 13 = .ok (.putfield 31, 3) := by decide +kernel
theorem dX2_become_16 : decode cX2_become 16 = .ok (.aload_n 0, 1) := by decide +kernel
theorem dX2_become_17 : decode cX2_become 17 = .ok (.aload_n 1, 1) := by decide +kernel
theorem dX2_become_18 : decode cX2_become 18 = .ok (.getfield 34, 3) := by decide +kernel
theorem dX2_become_21 : decode cX2_become 21 = .ok (.putfield 34, 3) := by decide +kernel
theorem dX2_become_24 : decode cX2_become 24 = .ok (.aload_n 0, 1) := by decide +kernel
theorem dX2_become_25 : decode cX2_become 25 = .ok (.aload_n 1, 1) := by decide +kernel
theorem dX2_become_26 : decode cX2_become 26 = .ok (.getfield 37, 3) := by decide +kernel
theorem dX2_become_29 : decode cX2_become 29 = .ok (.putfield 37, 3) := by decide +kernel
theorem dX2_become_32 : decode cX2_become 32 = .ok (.aload_n 1, 1) := by decide +kernel
theorem dX2_become_33 : decode cX2_become 33 = .ok (.getfield 9, 3) := by decide +kernel
theorem dX2_become_36 : decode cX2_become 36 = .ok (.iconst 0, 1) := by decide +kernel
theorem dX2_become_37 : decode cX2_become 37 = .ok (.aload_n 0, 1) := by decide +kernel
theorem dX2_become_38 : decode cX2_become 38 = .ok (.getfield 9, 3) := by decide +kernel
theorem dX2_become_41 : decode cX2_become 41 = .ok (.iconst 0, 1) := by decide +kernel
theorem dX2_become_42 : decode cX2_become 42 = .ok (.bipush 8, 2) := by decide +kernel
theorem dX2_become_44 : decode cX2_become 44 = .ok (.invokestatic 40, 3) := by decide +kernel
theorem dX2_become_47 : decode cX2_become 47 = .ok (.aload_n 1, 1) := by decide +kernel
theorem dX2_become_48 : decode cX2_become 48 = .ok (.getfield 13, 3) := by decide +kernel
theorem dX2_become_51 : decode cX2_become 51 = .ok (.iconst 0, 1) := by decide +kernel
theorem dX2_become_52 : decode cX2_become 52 = .ok (.aload_n 0, 1) := by decide +kernel
theorem dX2_become_53 : decode cX2_become 53 = .ok (.getfield 13, 3) := by decide +kernel
theorem dX2_become_56 : decode cX2_become 56 = .ok (.iconst 0, 1) := by decide +kernel
theorem dX2_become_57 : decode cX2_become 57 = .ok (.bipush 8, 2) := by decide +kernel
theorem dX2_become_59 : decode cX2_become 59 = .ok (.invokestatic 40, 3) := by decide +kernel
theorem dX2_become_62 : decode cX2_become 62 = .ok (.aload_n 1, 1) := by decide +kernel
theorem dX2_become_63 : decode cX2_become 63 = .ok (.getfield 16, 3) := by decide +kernel
theorem dX2_become_66 : decode cX2_become 66 = .ok (.iconst 0, 1) := by decide +kernel
theorem dX2_become_67 : decode cX2_become 67 = .ok (.aload_n 0, 1) := by decide +kernel
theorem dX2_become_68 : decode cX2_become 68 = .ok (.getfield 16, 3) := by decide +kernel
theorem dX2_become_71 : decode cX2_become 71 = .ok (.iconst 0, 1) := by decide +kernel
theorem dX2_become_72 : decode cX2_become 72 = .ok (.bipush 8, 2) := by decide +kernel
theorem dX2_become_74 : decode cX2_become 74 = .ok (.invokestatic 40, 3) := by decide +kernel
theorem dX2_become_77 : decode cX2_become 77 = .ok (.aload_n 1, 1) := by decide +kernel
theorem dX2_become_78 : decode cX2_become 78 = .ok (.getfield 21, 3) := by decide +kernel
theorem dX2_become_81 : decode cX2_become 81 = .ok (.iconst 0, 1) := by decide +kernel
theorem dX2_become_82 : decode cX2_become 82 = .ok (.aload_n 0, 1) := by decide +kernel
theorem dX2_become_83 : decode cX2_become 83 = .ok (.getfield 21, 3) := by decide +kernel
theorem dX2_become_86 : decode cX2_become 86 = .ok (.iconst 0, 1) := by decide +kernel
theorem dX2_become_87 : decode cX2_become 87 = .ok (.bipush 12, 2) := by decide +kernel
theorem dX2_become_89 : decode cX2_become 89 = .ok (.invokestatic 40, 3) := by decide +kernel
theorem dX2_become_92 : decode cX2_become 92 = .ok (.aload_n 1, 1) := by decide +kernel
theorem dX2_become_93 : decode cX2_become 93 = .ok (.getfield 24, 3) := by decide +kernel
theorem dX2_become_96 : decode cX2_become 96 = .ok (.iconst 0, 1) := by decide +kernel
theorem dX2_become_97 : decode cX2_become 97 = .ok (.aload_n 0, 1) := by decide +kernel
theorem dX2_become_98 : decode cX2_become 98 = .ok (.getfield 24, 3) := by decide +kernel
theorem dX2_become_101 : decode cX2_become 101 = .ok (.iconst 0, 1) := by decide +kernel
theorem dX2_become_102 : decode cX2_become 102 = .ok (.iconst 3, 1) := by decide +kernel
theorem dX2_become_103 : decode cX2_become 103 = .ok (.invokestatic 40, 3) := by decide +kernel
theorem dX2_become_106 : decode cX2_become 106 = .ok (.return_, 1) := by decide +kernel
theorem dX2_hasSquare_0 : decode cX2_hasSquare 0 = .ok (.iload_n 1, 1) := by decide +kernel
theorem dX2_hasSquare_1 : decode cX2_hasSquare 1 = .ok (.ifCond .lt 15, 3) := by decide +kernel
theorem dX2_hasSquare_4 : decode cX2_hasSquare 4 = .ok (.iload_n 1, 1) := by decide +kernel
theorem dX2_hasSquare_5 : decode cX2_hasSquare 5 = .ok (.aload_n 0, 1) := by decide +kernel
theorem dX2_hasSquare_6 : decode cX2_hasSquare 6 = .ok (.getfield 27, 3) := by decide +kernel
theorem dX2_hasSquare_9 : decode cX2_hasSquare 9 = .ok (.if_icmp .ge 7, 3) := by decide +kernel
theorem dX2_hasSquare_12 : decode cX2_hasSquare 12 = .ok (.iconst 1, 1) := by decide +kernel
theorem dX2_hasSquare_13 : decode cX2_hasSquare 13 = .ok (.goto 4, 3) := by decide +kernel
theorem dX2_hasSquare_16 : decode cX2_hasSquare 16 = .ok (.iconst 0, 1) := by decide +kernel
theorem dX2_hasSquare_17 : decode cX2_hasSquare 17 = .ok (.ireturn, 1) := by decide +kernel
theorem dX2_hasDye_0 : decode cX2_hasDye 0 = .ok (.iload_n 1, 1) := by decide +kernel
theorem dX2_hasDye_1 : decode cX2_hasDye 1 = .ok (.ifCond .lt 15, 3) := by decide +kernel
theorem dX2_hasDye_4 : decode cX2_hasDye 4 = .ok (.iload_n 1, 1) := by decide +kernel
theorem dX2_hasDye_5 : decode cX2_hasDye 5 = .ok (.aload_n 0, 1) := by decide +kernel
theorem dX2_hasDye_6 : decode cX2_hasDye 6 = .ok (.getfield 31, 3) := by decide +kernel
theorem dX2_hasDye_9 : decode cX2_hasDye 9 = .ok (.if_icmp .ge 7, 3) := by decide +kernel
theorem dX2_hasDye_12 : decode cX2_hasDye 12 = .ok (.iconst 1, 1) := by decide +kernel
theorem dX2_hasDye_13 : decode cX2_hasDye 13 = .ok (.goto 4, 3) := by decide +kernel
theorem dX2_hasDye_16 : decode cX2_hasDye 16 = .ok (.iconst 0, 1) := by decide +kernel
theorem dX2_hasDye_17 : decode cX2_hasDye 17 = .ok (.ireturn, 1) := by decide +kernel
theorem dX2_hasStencil_0 : decode cX2_hasStencil 0 = .ok (.iload_n 1, 1) := by decide +kernel
theorem dX2_hasStencil_1 : decode cX2_hasStencil 1 = .ok (.ifCond .lt 15, 3) := by decide +kernel
theorem dX2_hasStencil_4 : decode cX2_hasStencil 4 = .ok (.iload_n 1, 1) := by decide +kernel
theorem dX2_hasStencil_5 : decode cX2_hasStencil 5 = .ok (.aload_n 0, 1) := by decide +kernel
theorem dX2_hasStencil_6 : decode cX2_hasStencil 6 = .ok (.getfield 34, 3) := by decide +kernel
theorem dX2_hasStencil_9 : decode cX2_hasStencil 9 = .ok (.if_icmp .ge 7, 3) := by decide +kernel
theorem dX2_hasStencil_12 : decode cX2_hasStencil 12 = .ok (.iconst 1, 1) := by decide +kernel
theorem dX2_hasStencil_13 : decode cX2_hasStencil 13 = .ok (.goto 4, 3) := by decide +kernel
theorem dX2_hasStencil_16 : decode cX2_hasStencil 16 = .ok (.iconst 0, 1) := by decide +kernel
theorem dX2_hasStencil_17 : decode cX2_hasStencil 17 = .ok (.ireturn, 1) := by decide +kernel
theorem dX2_hasDoing_0 : decode cX2_hasDoing 0 = .ok (.aload_n 0, 1) := by decide +kernel
theorem dX2_hasDoing_1 : decode cX2_hasDoing 1 = .ok (.invokevirtual 46, 3) := by decide +kernel
theorem dX2_hasDoing_4 : decode cX2_hasDoing 4 = .ok (.ifCond .eq 17, 3) := by decide +kernel
theorem dX2_hasDoing_7 : decode cX2_hasDoing 7 = .ok (.lload_n 1, 1) := by decide +kernel
theorem dX2_hasDoing_8 : decode cX2_hasDoing 8 = .ok (.lconst 0, 1) := by decide +kernel
theorem dX2_hasDoing_9 : decode cX2_hasDoing 9 = .ok (.lcmp, 1) := by decide +kernel
theorem dX2_hasDoing_10 : decode cX2_hasDoing 10 = .ok (.ifCond .lt 11, 3) := by decide +kernel
theorem dX2_hasDoing_13 : decode cX2_hasDoing 13 = .ok (.lload_n 1, 1) := by decide +kernel
theorem dX2_hasDoing_14 : decode cX2_hasDoing 14 = .ok (.ldc2_w 50, 3) := by decide +kernel
theorem dX2_hasDoing_17 : decode cX2_hasDoing 17 = .ok (.lcmp, 1) := by decide +kernel
theorem dX2_hasDoing_18 : decode cX2_hasDoing 18 = .ok (.ifCond .le 5, 3) := by decide +kernel
theorem dX2_hasDoing_21 : decode cX2_hasDoing 21 = .ok (.iconst 0, 1) := by decide +kernel
theorem dX2_hasDoing_22 : decode cX2_hasDoing 22 = .ok (.ireturn, 1) := by decide +kernel
theorem dX2_hasDoing_23 : decode cX2_hasDoing 23 = .ok (.lload_n 1, 1) := by decide +kernel
theorem dX2_hasDoing_24 : decode cX2_hasDoing 24 = .ok (.aload_n 0, 1) := by decide +kernel
theorem dX2_hasDoing_25 : decode cX2_hasDoing 25 = .ok (.getfield 31, 3) := by decide +kernel
theorem dX2_hasDoing_28 : decode cX2_hasDoing 28 = .ok (.i2l, 1) := by decide +kernel
theorem dX2_hasDoing_29 : decode cX2_hasDoing 29 = .ok (.lcmp, 1) := by decide +kernel
theorem dX2_hasDoing_30 : decode cX2_hasDoing 30 = .ok (.ifCond .lt 32, 3) := by decide +kernel
theorem dX2_hasDoing_33 : decode cX2_hasDoing 33 = .ok (.lload_n 1, 1) := by decide +kernel
theorem dX2_hasDoing_34 : decode cX2_hasDoing 34 = .ok (.ldc2_w 52, 3) := by decide +kernel
theorem dX2_hasDoing_37 : decode cX2_hasDoing 37 = .ok (.lcmp, 1) := by decide +kernel
theorem dX2_hasDoing_38 : decode cX2_hasDoing 38 = .ok (.ifCond .ge 24, 3) := by decide +kernel
theorem dX2_hasDoing_41 : decode cX2_hasDoing 41 = .ok (.lload_n 1, 1) := by decide +kernel
theorem dX2_hasDoing_42 : decode cX2_hasDoing 42 = .ok (.ldc2_w 54, 3) := by decide +kernel
theorem dX2_hasDoing_45 : decode cX2_hasDoing 45 = .ok (.lcmp, 1) := by decide +kernel
theorem dX2_hasDoing_46 : decode cX2_hasDoing 46 = .ok (.ifCond .lt 20, 3) := by decide +kernel
theorem dX2_hasDoing_49 : decode cX2_hasDoing 49 = .ok (.lload_n 1, 1) := by decide +kernel
theorem dX2_hasDoing_50 : decode cX2_hasDoing 50 = .ok (.bipush 10, 2) := by decide +kernel
theorem dX2_hasDoing_52 : decode cX2_hasDoing 52 = .ok (.aload_n 0, 1) := by decide +kernel
theorem dX2_hasDoing_53 : decode cX2_hasDoing 53 = .ok (.getfield 34, 3) := by decide +kernel
theorem dX2_hasDoing_56 : decode cX2_hasDoing 56 = .ok (.iadd, 1) := by decide +kernel
theorem dX2_hasDoing_57 : decode cX2_hasDoing 57 = .ok (.i2l, 1) := by decide +kernel
theorem dX2_hasDoing_58 : decode cX2_hasDoing 58 = .ok (.lcmp, 1) := by decide +kernel
theorem dX2_hasDoing_59 : decode cX2_hasDoing 59 = .ok (.ifCond .ge 7, 3) := by decide +kernel
theorem dX2_hasDoing_62 : decode cX2_hasDoing 62 = .ok (.iconst 1, 1) := by decide +kernel
theorem dX2_hasDoing_63 : decode cX2_hasDoing 63 = .ok (.goto 4, 3) := by decide +kernel
theorem dX2_hasDoing_66 : decode cX2_hasDoing 66 = .ok (.iconst 0, 1) := by decide +kernel
theorem dX2_hasDoing_67 : decode cX2_hasDoing 67 = .ok (.ireturn, 1) := by decide +kernel
theorem dX2_doingCount_0 : decode cX2_doingCount 0 = .ok (.aload_n 0, 1) := by decide +kernel
theorem dX2_doingCount_1 : decode cX2_doingCount 1 = .ok (.getfield 31, 3) := by decide +kernel
theorem dX2_doingCount_4 : decode cX2_doingCount 4 = .ok (.aload_n 0, 1) := by decide +kernel
theorem dX2_doingCount_5 : decode cX2_doingCount 5 = .ok (.getfield 34, 3) := by decide +kernel
theorem dX2_doingCount_8 : decode cX2_doingCount 8 = .ok (.iadd, 1) := by decide +kernel
theorem dX2_doingCount_9 : decode cX2_doingCount 9 = .ok (.iconst 2, 1) := by decide +kernel
theorem dX2_doingCount_10 : decode cX2_doingCount 10 = .ok (.iadd, 1) := by decide +kernel
theorem dX2_doingCount_11 : decode cX2_doingCount 11 = .ok (.ireturn, 1) := by decide +kernel
theorem dX2_nthDoing_0 : decode cX2_nthDoing 0 = .ok (.iload_n 1, 1) := by decide +kernel
theorem dX2_nthDoing_1 : decode cX2_nthDoing 1 = .ok (.aload_n 0, 1) := by decide +kernel
theorem dX2_nthDoing_2 : decode cX2_nthDoing 2 = .ok (.getfield 31, 3) := by decide +kernel
theorem dX2_nthDoing_5 : decode cX2_nthDoing 5 = .ok (.if_icmp .ge 5, 3) := by decide +kernel
theorem dX2_nthDoing_8 : decode cX2_nthDoing 8 = .ok (.iload_n 1, 1) := by decide +kernel
theorem dX2_nthDoing_9 : decode cX2_nthDoing 9 = .ok (.ireturn, 1) := by decide +kernel
theorem dX2_nthDoing_10 : decode cX2_nthDoing 10 = .ok (.iload_n 1, 1) := by decide +kernel
theorem dX2_nthDoing_11 : decode cX2_nthDoing 11 = .ok (.aload_n 0, 1) := by decide +kernel
theorem dX2_nthDoing_12 : decode cX2_nthDoing 12 = .ok (.getfield 31, 3) := by decide +kernel
theorem dX2_nthDoing_15 : decode cX2_nthDoing 15 = .ok (.aload_n 0, 1) := by decide +kernel
theorem dX2_nthDoing_16 : decode cX2_nthDoing 16 = .ok (.getfield 34, 3) := by decide +kernel
theorem dX2_nthDoing_19 : decode cX2_nthDoing 19 = .ok (.iadd, 1) := by decide +kernel
theorem dX2_nthDoing_20 : decode cX2_nthDoing 20 = .ok (.if_icmp .ge 15, 3) := by decide +kernel
theorem dX2_nthDoing_23 : decode cX2_nthDoing 23 = .ok (.bipush 10, 2) := by decide +kernel
theorem dX2_nthDoing_25 : decode cX2_nthDoing 25 = .ok (.iload_n 1, 1) := by decide +kernel
theorem dX2_nthDoing_26 : decode cX2_nthDoing 26 = .ok (.iadd, 1) := by decide +kernel
theorem dX2_nthDoing_27 : decode cX2_nthDoing 27 = .ok (.aload_n 0, 1) := by decide +kernel
theorem dX2_nthDoing_28 : decode cX2_nthDoing 28 = .ok (.getfield 31, 3) := by decide +kernel
theorem dX2_nthDoing_31 : decode cX2_nthDoing 31 = .ok (.isub, 1) := by decide +kernel
theorem dX2_nthDoing_32 : decode cX2_nthDoing 32 = .ok (.goto 17, 3) := by decide +kernel
theorem dX2_nthDoing_35 : decode cX2_nthDoing 35 = .ok (.bipush 20, 2) := by decide +kernel
theorem dX2_nthDoing_37 : decode cX2_nthDoing 37 = .ok (.iload_n 1, 1) := by decide +kernel
theorem dX2_nthDoing_38 : decode cX2_nthDoing 38 = .ok (.iadd, 1) := by decide +kernel
theorem dX2_nthDoing_39 : decode cX2_nthDoing 39 = .ok (.aload_n 0, 1) := by decide +kernel
theorem dX2_nthDoing_40 : decode cX2_nthDoing 40 = .ok (.getfield 31, 3) := by decide +kernel
theorem dX2_nthDoing_43 : decode cX2_nthDoing 43 = .ok (.isub, 1) := by decide +kernel
theorem dX2_nthDoing_44 : decode cX2_nthDoing 44 = .ok (.aload_n 0, 1) := by decide +kernel
theorem dX2_nthDoing_45 : decode cX2_nthDoing 45 = .ok (.getfield 34, 3) := by decide +kernel
theorem dX2_nthDoing_48 : decode cX2_nthDoing 48 = .ok (.isub, 1) := by decide +kernel
theorem dX2_nthDoing_49 : decode cX2_nthDoing 49 = .ok (.ireturn, 1) := by decide +kernel
theorem dX2_amountInDye_0 : decode cX2_amountInDye 0 = .ok (.aload_n 0, 1) := by decide +kernel
theorem dX2_amountInDye_1 : decode cX2_amountInDye 1 = .ok (.getfield 21, 3) := by decide +kernel
theorem dX2_amountInDye_4 : decode cX2_amountInDye 4 = .ok (.iload_n 1, 1) := by decide +kernel
theorem dX2_amountInDye_5 : decode cX2_amountInDye 5 = .ok (.iconst 3, 1) := by decide +kernel
theorem dX2_amountInDye_6 : decode cX2_amountInDye 6 = .ok (.imul, 1) := by decide +kernel
theorem dX2_amountInDye_7 : decode cX2_amountInDye 7 = .ok (.iload_n 2, 1) := by decide +kernel
theorem dX2_amountInDye_8 : decode cX2_amountInDye 8 = .ok (.iadd, 1) := by decide +kernel
theorem dX2_amountInDye_9 : decode cX2_amountInDye 9 = .ok (.iaload, 1) := by decide +kernel
theorem dX2_amountInDye_10 : decode cX2_amountInDye 10 = .ok (.ireturn, 1) := by decide +kernel
theorem dX2_gain_0 : decode cX2_gain 0 = .ok (.iload_n 2, 1) := by decide +kernel
theorem dX2_gain_1 : decode cX2_gain 1 = .ok (.iload 4, 2) := by decide +kernel
theorem dX2_gain_3 : decode cX2_gain 3 = .ok (.invokestatic 56, 3) := by decide +kernel
theorem dX2_gain_6 : decode cX2_gain 6 = .ok (.istore 5, 2) := by decide +kernel
theorem dX2_gain_8 : decode cX2_gain 8 = .ok (.aload_n 0, 1) := by decide +kernel
theorem dX2_gain_9 : decode cX2_gain 9 = .ok (.getfield 9, 3) := by decide +kernel
theorem dX2_gain_12 : decode cX2_gain 12 = .ok (.iload_n 1, 1) := by decide +kernel
theorem dX2_gain_13 : decode cX2_gain 13 = .ok (.iaload, 1) := by decide +kernel
theorem dX2_gain_14 : decode cX2_gain 14 = .ok (.aload_n 0, 1) := by decide +kernel
theorem dX2_gain_15 : decode cX2_gain 15 = .ok (.iload_n 3, 1) := by decide +kernel
theorem dX2_gain_16 : decode cX2_gain 16 = .ok (.iload 4, 2) := by decide +kernel
theorem dX2_gain_18 : decode cX2_gain 18 = .ok (.invokevirtual 60, 3) := by decide +kernel
theorem dX2_gain_21 : decode cX2_gain 21 = .ok (.iload 5, 2) := by decide +kernel
theorem dX2_gain_23 : decode cX2_gain 23 = .ok (.invokestatic 63, 3) := by decide +kernel
theorem dX2_gain_26 : decode cX2_gain 26 = .ok (.istore 6, 2) := by decide +kernel
theorem dX2_gain_28 : decode cX2_gain 28 = .ok (.iload 6, 2) := by decide +kernel
theorem dX2_gain_30 : decode cX2_gain 30 = .ok (.bipush 9, 2) := by decide +kernel
theorem dX2_gain_32 : decode cX2_gain 32 = .ok (.iload 5, 2) := by decide +kernel
theorem dX2_gain_34 : decode cX2_gain 34 = .ok (.isub, 1) := by decide +kernel
theorem dX2_gain_35 : decode cX2_gain 35 = .ok (.invokestatic 69, 3) := by decide +kernel
theorem dX2_gain_38 : decode cX2_gain 38 = .ok (.ireturn, 1) := by decide +kernel
theorem dX2_after_0 : decode cX2_after 0 = .ok (.iload_n 3, 1) := by decide +kernel
theorem dX2_after_1 : decode cX2_after 1 = .ok (.bipush 10, 2) := by decide +kernel
theorem dX2_after_3 : decode cX2_after 3 = .ok (.if_icmp .ge 27, 3) := by decide +kernel
theorem dX2_after_6 : decode cX2_after 6 = .ok (.iload_n 2, 1) := by decide +kernel
theorem dX2_after_7 : decode cX2_after 7 = .ok (.invokestatic 74, 3) := by decide +kernel
theorem dX2_after_10 : decode cX2_after 10 = .ok (.ifCond .ne 13, 3) := by decide +kernel
theorem dX2_after_13 : decode cX2_after 13 = .ok (.aload_n 0, 1) := by decide +kernel
theorem dX2_after_14 : decode cX2_after 14 = .ok (.iload_n 1, 1) := by decide +kernel
theorem dX2_after_15 : decode cX2_after 15 = .ok (.iload_n 2, 1) := by decide +kernel
theorem dX2_after_16 : decode cX2_after 16 = .ok (.iload_n 3, 1) := by decide +kernel
theorem dX2_after_17 : decode cX2_after 17 = .ok (.invokevirtual 78, 3) := by decide +kernel
theorem dX2_after_20 : decode cX2_after 20 = .ok (.goto 9, 3) := by decide +kernel
theorem dX2_after_23 : decode cX2_after 23 = .ok (.aload_n 0, 1) := by decide +kernel
theorem dX2_after_24 : decode cX2_after 24 = .ok (.iload_n 1, 1) := by decide +kernel
theorem dX2_after_25 : decode cX2_after 25 = .ok (.iload_n 2, 1) := by decide +kernel
theorem dX2_after_26 : decode cX2_after 26 = .ok (.invokevirtual 81, 3) := by decide +kernel
theorem dX2_after_29 : decode cX2_after 29 = .ok (.ireturn, 1) := by decide +kernel
theorem dX2_after_30 : decode cX2_after 30 = .ok (.iload_n 3, 1) := by decide +kernel
theorem dX2_after_31 : decode cX2_after 31 = .ok (.bipush 20, 2) := by decide +kernel
theorem dX2_after_33 : decode cX2_after 33 = .ok (.if_icmp .ge 41, 3) := by decide +kernel
theorem dX2_after_36 : decode cX2_after 36 = .ok (.aload_n 0, 1) := by decide +kernel
theorem dX2_after_37 : decode cX2_after 37 = .ok (.getfield 24, 3) := by decide +kernel
theorem dX2_after_40 : decode cX2_after 40 = .ok (.iload_n 3, 1) := by decide +kernel
theorem dX2_after_41 : decode cX2_after 41 = .ok (.bipush 10, 2) := by decide +kernel
theorem dX2_after_43 : decode cX2_after 43 = .ok (.isub, 1) := by decide +kernel
theorem dX2_after_44 : decode cX2_after 44 = .ok (.iaload, 1) := by decide +kernel
theorem dX2_after_45 : decode cX2_after 45 = .ok (.iload_n 1, 1) := by decide +kernel
theorem dX2_after_46 : decode cX2_after 46 = .ok (.ishr, 1) := by decide +kernel
theorem dX2_after_47 : decode cX2_after 47 = .ok (.iconst 1, 1) := by decide +kernel
theorem dX2_after_48 : decode cX2_after 48 = .ok (.iand, 1) := by decide +kernel
theorem dX2_after_49 : decode cX2_after 49 = .ok (.ifCond .eq 7, 3) := by decide +kernel
theorem dX2_after_52 : decode cX2_after 52 = .ok (.iconst 1, 1) := by decide +kernel
theorem dX2_after_53 : decode cX2_after 53 = .ok (.goto 4, 3) := by decide +kernel
theorem dX2_after_56 : decode cX2_after 56 = .ok (.iconst 0, 1) := by decide +kernel
theorem dX2_after_57 : decode cX2_after 57 = .ok (.istore 4, 2) := by decide +kernel
theorem dX2_after_59 : decode cX2_after 59 = .ok (.iload 4, 2) := by decide +kernel
theorem dX2_after_61 : decode cX2_after 61 = .ok (.ifCond .eq 11, 3) := by decide +kernel
theorem dX2_after_64 : decode cX2_after 64 = .ok (.iload_n 2, 1) := by decide +kernel
theorem dX2_after_65 : decode cX2_after 65 = .ok (.iconst 3, 1) := by decide +kernel
theorem dX2_after_66 : decode cX2_after 66 = .ok (.invokestatic 84, 3) := by decide +kernel
theorem dX2_after_69 : decode cX2_after 69 = .ok (.goto 4, 3) := by decide +kernel
theorem dX2_after_72 : decode cX2_after 72 = .ok (.iload_n 2, 1) := by decide +kernel
theorem dX2_after_73 : decode cX2_after 73 = .ok (.ireturn, 1) := by decide +kernel
theorem dX2_after_74 : decode cX2_after 74 = .ok (.iload_n 3, 1) := by decide +kernel
theorem dX2_after_75 : decode cX2_after 75 = .ok (.bipush 20, 2) := by decide +kernel
theorem dX2_after_77 : decode cX2_after 77 = .ok (.if_icmp .ne 9, 3) := by decide +kernel
theorem dX2_after_80 : decode cX2_after 80 = .ok (.iload_n 2, 1) := by decide +kernel
theorem dX2_after_81 : decode cX2_after 81 = .ok (.iconst 0, 1) := by decide +kernel
theorem dX2_after_82 : decode cX2_after 82 = .ok (.invokestatic 84, 3) := by decide +kernel
theorem dX2_after_85 : decode cX2_after 85 = .ok (.ireturn, 1) := by decide +kernel
theorem dX2_after_86 : decode cX2_after 86 = .ok (.iload_n 2, 1) := by decide +kernel
theorem dX2_after_87 : decode cX2_after 87 = .ok (.invokestatic 74, 3) := by decide +kernel
theorem dX2_after_90 : decode cX2_after 90 = .ok (.ifCond .ne 10, 3) := by decide +kernel
theorem dX2_after_93 : decode cX2_after 93 = .ok (.iload_n 2, 1) := by decide +kernel
theorem dX2_after_94 : decode cX2_after 94 = .ok (.invokestatic 87, 3) := by decide +kernel
theorem dX2_after_97 : decode cX2_after 97 = .ok (.goto 4, 3) := by decide +kernel
theorem dX2_after_100 : decode cX2_after 100 = .ok (.iload_n 2, 1) := by decide +kernel
theorem dX2_after_101 : decode cX2_after 101 = .ok (.ireturn, 1) := by decide +kernel
theorem dX2_dyed_0 : decode cX2_dyed 0 = .ok (.iload_n 2, 1) := by decide +kernel
theorem dX2_dyed_1 : decode cX2_dyed 1 = .ok (.istore 4, 2) := by decide +kernel
theorem dX2_dyed_3 : decode cX2_dyed 3 = .ok (.iconst 0, 1) := by decide +kernel
theorem dX2_dyed_4 : decode cX2_dyed 4 = .ok (.istore 5, 2) := by decide +kernel
theorem dX2_dyed_6 : decode cX2_dyed 6 = .ok (.iload 5, 2) := by decide +kernel
theorem dX2_dyed_8 : decode cX2_dyed 8 = .ok (.iconst 3, 1) := by decide +kernel
theorem dX2_dyed_9 : decode cX2_dyed 9 = .ok (.if_icmp .ge 27, 3) := by decide +kernel
theorem dX2_dyed_12 : decode cX2_dyed 12 = .ok (.iload 4, 2) := by decide +kernel
theorem dX2_dyed_14 : decode cX2_dyed 14 = .ok (.iload 5, 2) := by decide +kernel
theorem dX2_dyed_16 : decode cX2_dyed 16 = .ok (.aload_n 0, 1) := by decide +kernel
theorem dX2_dyed_17 : decode cX2_dyed 17 = .ok (.iload_n 1, 1) := by decide +kernel
theorem dX2_dyed_18 : decode cX2_dyed 18 = .ok (.iload_n 2, 1) := by decide +kernel
theorem dX2_dyed_19 : decode cX2_dyed 19 = .ok (.iload_n 3, 1) := by decide +kernel
theorem dX2_dyed_20 : decode cX2_dyed 20 = .ok (.iload 5, 2) := by decide +kernel
theorem dX2_dyed_22 : decode cX2_dyed 22 = .ok (.invokevirtual 90, 3) := by decide +kernel
theorem dX2_dyed_25 : decode cX2_dyed 25 = .ok (.invokestatic 94, 3) := by decide +kernel
theorem dX2_dyed_28 : decode cX2_dyed 28 = .ok (.istore 4, 2) := by decide +kernel
theorem dX2_dyed_30 : decode cX2_dyed 30 = .ok (.iinc 5 1, 3) := by decide +kernel
theorem dX2_dyed_33 : decode cX2_dyed 33 = .ok (.goto (-27), 3) := by decide +kernel
theorem dX2_dyed_36 : decode cX2_dyed 36 = .ok (.iload 4, 2) := by decide +kernel
theorem dX2_dyed_38 : decode cX2_dyed 38 = .ok (.ireturn, 1) := by decide +kernel
theorem dX2_cracked_0 : decode cX2_cracked 0 = .ok (.iload_n 2, 1) := by decide +kernel
theorem dX2_cracked_1 : decode cX2_cracked 1 = .ok (.iconst 0, 1) := by decide +kernel
theorem dX2_cracked_2 : decode cX2_cracked 2 = .ok (.iload_n 2, 1) := by decide +kernel
theorem dX2_cracked_3 : decode cX2_cracked 3 = .ok (.invokestatic 74, 3) := by decide +kernel
theorem dX2_cracked_6 : decode cX2_cracked 6 = .ok (.aload_n 0, 1) := by decide +kernel
theorem dX2_cracked_7 : decode cX2_cracked 7 = .ok (.getfield 9, 3) := by decide +kernel
theorem dX2_cracked_10 : decode cX2_cracked 10 = .ok (.iload_n 1, 1) := by decide +kernel
theorem dX2_cracked_11 : decode cX2_cracked 11 = .ok (.iaload, 1) := by decide +kernel
theorem dX2_cracked_12 : decode cX2_cracked 12 = .ok (.invokestatic 97, 3) := by decide +kernel
theorem dX2_cracked_15 : decode cX2_cracked 15 = .ok (.isub, 1) := by decide +kernel
theorem dX2_cracked_16 : decode cX2_cracked 16 = .ok (.invokestatic 100, 3) := by decide +kernel
theorem dX2_cracked_19 : decode cX2_cracked 19 = .ok (.invokestatic 84, 3) := by decide +kernel
theorem dX2_cracked_22 : decode cX2_cracked 22 = .ok (.ireturn, 1) := by decide +kernel
theorem dX2_rinsed_0 : decode cX2_rinsed 0 = .ok (.iload_n 0, 1) := by decide +kernel
theorem dX2_rinsed_1 : decode cX2_rinsed 1 = .ok (.istore_n 1, 1) := by decide +kernel
theorem dX2_rinsed_2 : decode cX2_rinsed 2 = .ok (.iconst 0, 1) := by decide +kernel
theorem dX2_rinsed_3 : decode cX2_rinsed 3 = .ok (.istore_n 2, 1) := by decide +kernel
theorem dX2_rinsed_4 : decode cX2_rinsed 4 = .ok (.iload_n 2, 1) := by decide +kernel
theorem dX2_rinsed_5 : decode cX2_rinsed 5 = .ok (.iconst 3, 1) := by decide +kernel
theorem dX2_rinsed_6 : decode cX2_rinsed 6 = .ok (.if_icmp .ge 28, 3) := by decide +kernel
theorem dX2_rinsed_9 : decode cX2_rinsed 9 = .ok (.iload_n 1, 1) := by decide +kernel
theorem dX2_rinsed_10 : decode cX2_rinsed 10 = .ok (.iload_n 2, 1) := by decide +kernel
theorem dX2_rinsed_11 : decode cX2_rinsed 11 = .ok (.iload_n 0, 1) := by decide +kernel
theorem dX2_rinsed_12 : decode cX2_rinsed 12 = .ok (.iload_n 2, 1) := by decide +kernel
theorem dX2_rinsed_13 : decode cX2_rinsed 13 = .ok (.invokestatic 56, 3) := by decide +kernel
theorem dX2_rinsed_16 : decode cX2_rinsed 16 = .ok (.ifCond .le 7, 3) := by decide +kernel
theorem dX2_rinsed_19 : decode cX2_rinsed 19 = .ok (.iconst (-1), 1) := by decide +kernel
theorem dX2_rinsed_20 : decode cX2_rinsed 20 = .ok (.goto 4, 3) := by decide +kernel
theorem dX2_rinsed_23 : decode cX2_rinsed 23 = .ok (.iconst 0, 1) := by decide +kernel
theorem dX2_rinsed_24 : decode cX2_rinsed 24 = .ok (.invokestatic 94, 3) := by decide +kernel
theorem dX2_rinsed_27 : decode cX2_rinsed 27 = .ok (.istore_n 1, 1) := by decide +kernel
theorem dX2_rinsed_28 : decode cX2_rinsed 28 = .ok (.iinc 2 1, 3) := by decide +kernel
theorem dX2_rinsed_31 : decode cX2_rinsed 31 = .ok (.goto (-27), 3) := by decide +kernel
theorem dX2_rinsed_34 : decode cX2_rinsed 34 = .ok (.iload_n 1, 1) := by decide +kernel
theorem dX2_rinsed_35 : decode cX2_rinsed 35 = .ok (.ireturn, 1) := by decide +kernel
theorem dX2_afterRow_0 : decode cX2_afterRow 0 = .ok (.iload_n 2, 1) := by decide +kernel
theorem dX2_afterRow_1 : decode cX2_afterRow 1 = .ok (.istore 5, 2) := by decide +kernel
theorem dX2_afterRow_3 : decode cX2_afterRow 3 = .ok (.iconst 0, 1) := by decide +kernel
theorem dX2_afterRow_4 : decode cX2_afterRow 4 = .ok (.istore 6, 2) := by decide +kernel
theorem dX2_afterRow_6 : decode cX2_afterRow 6 = .ok (.iload 6, 2) := by decide +kernel
theorem dX2_afterRow_8 : decode cX2_afterRow 8 = .ok (.iload 4, 2) := by decide +kernel
theorem dX2_afterRow_10 : decode cX2_afterRow 10 = .ok (.if_icmp .ge 22, 3) := by decide +kernel
theorem dX2_afterRow_13 : decode cX2_afterRow 13 = .ok (.aload_n 0, 1) := by decide +kernel
theorem dX2_afterRow_14 : decode cX2_afterRow 14 = .ok (.iload_n 1, 1) := by decide +kernel
theorem dX2_afterRow_15 : decode cX2_afterRow 15 = .ok (.iload 5, 2) := by decide +kernel
theorem dX2_afterRow_17 : decode cX2_afterRow 17 = .ok (.aload_n 3, 1) := by decide +kernel
theorem dX2_afterRow_18 : decode cX2_afterRow 18 = .ok (.iload 6, 2) := by decide +kernel
theorem dX2_afterRow_20 : decode cX2_afterRow 20 = .ok (.iaload, 1) := by decide +kernel
theorem dX2_afterRow_21 : decode cX2_afterRow 21 = .ok (.invokevirtual 103, 3) := by decide +kernel
theorem dX2_afterRow_24 : decode cX2_afterRow 24 = .ok (.istore 5, 2) := by decide +kernel
theorem dX2_afterRow_26 : decode cX2_afterRow 26 = .ok (.iinc 6 1, 3) := by decide +kernel
theorem dX2_afterRow_29 : decode cX2_afterRow 29 = .ok (.goto (-23), 3) := by decide +kernel
theorem dX2_afterRow_32 : decode cX2_afterRow 32 = .ok (.iload 5, 2) := by decide +kernel
theorem dX2_afterRow_34 : decode cX2_afterRow 34 = .ok (.ireturn, 1) := by decide +kernel
theorem dX2_apply_0 : decode cX2_apply 0 = .ok (.iconst 0, 1) := by decide +kernel
theorem dX2_apply_1 : decode cX2_apply 1 = .ok (.istore 4, 2) := by decide +kernel
theorem dX2_apply_3 : decode cX2_apply 3 = .ok (.iconst 0, 1) := by decide +kernel
theorem dX2_apply_4 : decode cX2_apply 4 = .ok (.istore 5, 2) := by decide +kernel
theorem dX2_apply_6 : decode cX2_apply 6 = .ok (.iload 5, 2) := by decide +kernel
theorem dX2_apply_8 : decode cX2_apply 8 = .ok (.aload_n 0, 1) := by decide +kernel
theorem dX2_apply_9 : decode cX2_apply 9 = .ok (.getfield 27, 3) := by decide +kernel
theorem dX2_apply_12 : decode cX2_apply 12 = .ok (.if_icmp .ge 47, 3) := by decide +kernel
theorem dX2_apply_15 : decode cX2_apply 15 = .ok (.aload_n 2, 1) := by decide +kernel
theorem dX2_apply_16 : decode cX2_apply 16 = .ok (.iload 5, 2) := by decide +kernel
theorem dX2_apply_18 : decode cX2_apply 18 = .ok (.iaload, 1) := by decide +kernel
theorem dX2_apply_19 : decode cX2_apply 19 = .ok (.istore 6, 2) := by decide +kernel
theorem dX2_apply_21 : decode cX2_apply 21 = .ok (.aload_n 3, 1) := by decide +kernel
theorem dX2_apply_22 : decode cX2_apply 22 = .ok (.iload 5, 2) := by decide +kernel
theorem dX2_apply_24 : decode cX2_apply 24 = .ok (.aload_n 0, 1) := by decide +kernel
theorem dX2_apply_25 : decode cX2_apply 25 = .ok (.iload 5, 2) := by decide +kernel
theorem dX2_apply_27 : decode cX2_apply 27 = .ok (.iload 6, 2) := by decide +kernel
theorem dX2_apply_29 : decode cX2_apply 29 = .ok (.iload_n 1, 1) := by decide +kernel
theorem dX2_apply_30 : decode cX2_apply 30 = .ok (.invokevirtual 103, 3) := by decide +kernel
theorem dX2_apply_33 : decode cX2_apply 33 = .ok (.iastore, 1) := by decide +kernel
theorem dX2_apply_34 : decode cX2_apply 34 = .ok (.iload 4, 2) := by decide +kernel
theorem dX2_apply_36 : decode cX2_apply 36 = .ok (.aload_n 3, 1) := by decide +kernel
theorem dX2_apply_37 : decode cX2_apply 37 = .ok (.iload 5, 2) := by decide +kernel
theorem dX2_apply_39 : decode cX2_apply 39 = .ok (.iaload, 1) := by decide +kernel
theorem dX2_apply_40 : decode cX2_apply 40 = .ok (.iload 6, 2) := by decide +kernel
theorem dX2_apply_42 : decode cX2_apply 42 = .ok (.if_icmp .eq 7, 3) := by decide +kernel
theorem dX2_apply_45 : decode cX2_apply 45 = .ok (.iconst 1, 1) := by decide +kernel
theorem dX2_apply_46 : decode cX2_apply 46 = .ok (.goto 4, 3) := by decide +kernel
theorem dX2_apply_49 : decode cX2_apply 49 = .ok (.iconst 0, 1) := by decide +kernel
theorem dX2_apply_50 : decode cX2_apply 50 = .ok (.ior, 1) := by decide +kernel
theorem dX2_apply_51 : decode cX2_apply 51 = .ok (.istore 4, 2) := by decide +kernel
theorem dX2_apply_53 : decode cX2_apply 53 = .ok (.iinc 5 1, 3) := by decide +kernel
theorem dX2_apply_56 : decode cX2_apply 56 = .ok (.goto (-50), 3) := by decide +kernel
theorem dX2_apply_59 : decode cX2_apply 59 = .ok (.iload 4, 2) := by decide +kernel
theorem dX2_apply_61 : decode cX2_apply 61 = .ok (.ireturn, 1) := by decide +kernel
theorem dX2_isRight_0 : decode cX2_isRight 0 = .ok (.iload_n 2, 1) := by decide +kernel
theorem dX2_isRight_1 : decode cX2_isRight 1 = .ok (.invokestatic 106, 3) := by decide +kernel
theorem dX2_isRight_4 : decode cX2_isRight 4 = .ok (.aload_n 0, 1) := by decide +kernel
theorem dX2_isRight_5 : decode cX2_isRight 5 = .ok (.getfield 13, 3) := by decide +kernel
theorem dX2_isRight_8 : decode cX2_isRight 8 = .ok (.iload_n 1, 1) := by decide +kernel
theorem dX2_isRight_9 : decode cX2_isRight 9 = .ok (.iaload, 1) := by decide +kernel
theorem dX2_isRight_10 : decode cX2_isRight 10 = .ok (.if_icmp .ne 7, 3) := by decide +kernel
theorem dX2_isRight_13 : decode cX2_isRight 13 = .ok (.iconst 1, 1) := by decide +kernel
theorem dX2_isRight_14 : decode cX2_isRight 14 = .ok (.goto 4, 3) := by decide +kernel
theorem dX2_isRight_17 : decode cX2_isRight 17 = .ok (.iconst 0, 1) := by decide +kernel
theorem dX2_isRight_18 : decode cX2_isRight 18 = .ok (.ireturn, 1) := by decide +kernel
theorem dX2_rightSet_0 : decode cX2_rightSet 0 = .ok (.iconst 0, 1) := by decide +kernel
theorem dX2_rightSet_1 : decode cX2_rightSet 1 = .ok (.istore_n 2, 1) := by decide +kernel
theorem dX2_rightSet_2 : decode cX2_rightSet 2 = .ok (.iconst 0, 1) := by decide +kernel
theorem dX2_rightSet_3 : decode cX2_rightSet 3 = .ok (.istore_n 3, 1) := by decide +kernel
theorem dX2_rightSet_4 : decode cX2_rightSet 4 = .ok (.iload_n 3, 1) := by decide +kernel
theorem dX2_rightSet_5 : decode cX2_rightSet 5 = .ok (.aload_n 0, 1) := by decide +kernel
theorem dX2_rightSet_6 : decode cX2_rightSet 6 = .ok (.getfield 27, 3) := by decide +kernel
theorem dX2_rightSet_9 : decode cX2_rightSet 9 = .ok (.if_icmp .ge 26, 3) := by decide +kernel
theorem dX2_rightSet_12 : decode cX2_rightSet 12 = .ok (.aload_n 0, 1) := by decide +kernel
theorem dX2_rightSet_13 : decode cX2_rightSet 13 = .ok (.iload_n 3, 1) := by decide +kernel
theorem dX2_rightSet_14 : decode cX2_rightSet 14 = .ok (.aload_n 1, 1) := by decide +kernel
theorem dX2_rightSet_15 : decode cX2_rightSet 15 = .ok (.iload_n 3, 1) := by decide +kernel
theorem dX2_rightSet_16 : decode cX2_rightSet 16 = .ok (.iaload, 1) := by decide +kernel
theorem dX2_rightSet_17 : decode cX2_rightSet 17 = .ok (.invokevirtual 109, 3) := by decide +kernel
theorem dX2_rightSet_20 : decode cX2_rightSet 20 = .ok (.ifCond .eq 9, 3) := by decide +kernel
theorem dX2_rightSet_23 : decode cX2_rightSet 23 = .ok (.iload_n 2, 1) := by decide +kernel
theorem dX2_rightSet_24 : decode cX2_rightSet 24 = .ok (.iconst 1, 1) := by decide +kernel
theorem dX2_rightSet_25 : decode cX2_rightSet 25 = .ok (.iload_n 3, 1) := by decide +kernel
theorem dX2_rightSet_26 : decode cX2_rightSet 26 = .ok (.ishl, 1) := by decide +kernel
theorem dX2_rightSet_27 : decode cX2_rightSet 27 = .ok (.ior, 1) := by decide +kernel
theorem dX2_rightSet_28 : decode cX2_rightSet 28 = .ok (.istore_n 2, 1) := by decide +kernel
theorem dX2_rightSet_29 : decode cX2_rightSet 29 = .ok (.iinc 3 1, 3) := by decide +kernel
theorem dX2_rightSet_32 : decode cX2_rightSet 32 = .ok (.goto (-28), 3) := by decide +kernel
theorem dX2_rightSet_35 : decode cX2_rightSet 35 = .ok (.iload_n 2, 1) := by decide +kernel
theorem dX2_rightSet_36 : decode cX2_rightSet 36 = .ok (.ireturn, 1) := by decide +kernel
theorem dX2_rightCount_0 : decode cX2_rightCount 0 = .ok (.aload_n 0, 1) := by decide +kernel
theorem dX2_rightCount_1 : decode cX2_rightCount 1 = .ok (.aload_n 1, 1) := by decide +kernel
theorem dX2_rightCount_2 : decode cX2_rightCount 2 = .ok (.invokevirtual 113, 3) := by decide +kernel
theorem dX2_rightCount_5 : decode cX2_rightCount 5 = .ok (.invokestatic 117, 3) := by decide +kernel
theorem dX2_rightCount_8 : decode cX2_rightCount 8 = .ok (.ireturn, 1) := by decide +kernel
theorem dX2_darknessOf_0 : decode cX2_darknessOf 0 = .ok (.iconst 0, 1) := by decide +kernel
theorem dX2_darknessOf_1 : decode cX2_darknessOf 1 = .ok (.istore_n 2, 1) := by decide +kernel
theorem dX2_darknessOf_2 : decode cX2_darknessOf 2 = .ok (.iconst 0, 1) := by decide +kernel
theorem dX2_darknessOf_3 : decode cX2_darknessOf 3 = .ok (.istore_n 3, 1) := by decide +kernel
theorem dX2_darknessOf_4 : decode cX2_darknessOf 4 = .ok (.iload_n 3, 1) := by decide +kernel
theorem dX2_darknessOf_5 : decode cX2_darknessOf 5 = .ok (.aload_n 0, 1) := by decide +kernel
theorem dX2_darknessOf_6 : decode cX2_darknessOf 6 = .ok (.getfield 27, 3) := by decide +kernel
theorem dX2_darknessOf_9 : decode cX2_darknessOf 9 = .ok (.if_icmp .ge 18, 3) := by decide +kernel
theorem dX2_darknessOf_12 : decode cX2_darknessOf 12 = .ok (.iload_n 2, 1) := by decide +kernel
theorem dX2_darknessOf_13 : decode cX2_darknessOf 13 = .ok (.aload_n 1, 1) := by decide +kernel
theorem dX2_darknessOf_14 : decode cX2_darknessOf 14 = .ok (.iload_n 3, 1) := by decide +kernel
theorem dX2_darknessOf_15 : decode cX2_darknessOf 15 = .ok (.iaload, 1) := by decide +kernel
theorem dX2_darknessOf_16 : decode cX2_darknessOf 16 = .ok (.invokestatic 122, 3) := by decide +kernel
theorem dX2_darknessOf_19 : decode cX2_darknessOf 19 = .ok (.iadd, 1) := by decide +kernel
theorem dX2_darknessOf_20 : decode cX2_darknessOf 20 = .ok (.istore_n 2, 1) := by decide +kernel
theorem dX2_darknessOf_21 : decode cX2_darknessOf 21 = .ok (.iinc 3 1, 3) := by decide +kernel
theorem dX2_darknessOf_24 : decode cX2_darknessOf 24 = .ok (.goto (-20), 3) := by decide +kernel
theorem dX2_darknessOf_27 : decode cX2_darknessOf 27 = .ok (.iload_n 2, 1) := by decide +kernel
theorem dX2_darknessOf_28 : decode cX2_darknessOf 28 = .ok (.ireturn, 1) := by decide +kernel
theorem dX2_waxedSet_0 : decode cX2_waxedSet 0 = .ok (.iconst 0, 1) := by decide +kernel
theorem dX2_waxedSet_1 : decode cX2_waxedSet 1 = .ok (.istore_n 1, 1) := by decide +kernel
theorem dX2_waxedSet_2 : decode cX2_waxedSet 2 = .ok (.iconst 0, 1) := by decide +kernel
theorem dX2_waxedSet_3 : decode cX2_waxedSet 3 = .ok (.istore_n 2, 1) := by decide +kernel
theorem dX2_waxedSet_4 : decode cX2_waxedSet 4 = .ok (.iload_n 2, 1) := by decide +kernel
theorem dX2_waxedSet_5 : decode cX2_waxedSet 5 = .ok (.aload_n 0, 1) := by decide +kernel
theorem dX2_waxedSet_6 : decode cX2_waxedSet 6 = .ok (.getfield 27, 3) := by decide +kernel
theorem dX2_waxedSet_9 : decode cX2_waxedSet 9 = .ok (.if_icmp .ge 27, 3) := by decide +kernel
theorem dX2_waxedSet_12 : decode cX2_waxedSet 12 = .ok (.aload_n 0, 1) := by decide +kernel
theorem dX2_waxedSet_13 : decode cX2_waxedSet 13 = .ok (.getfield 16, 3) := by decide +kernel
theorem dX2_waxedSet_16 : decode cX2_waxedSet 16 = .ok (.iload_n 2, 1) := by decide +kernel
theorem dX2_waxedSet_17 : decode cX2_waxedSet 17 = .ok (.iaload, 1) := by decide +kernel
theorem dX2_waxedSet_18 : decode cX2_waxedSet 18 = .ok (.invokestatic 74, 3) := by decide +kernel
theorem dX2_waxedSet_21 : decode cX2_waxedSet 21 = .ok (.ifCond .le 9, 3) := by decide +kernel
theorem dX2_waxedSet_24 : decode cX2_waxedSet 24 = .ok (.iload_n 1, 1) := by decide +kernel
theorem dX2_waxedSet_25 : decode cX2_waxedSet 25 = .ok (.iconst 1, 1) := by decide +kernel
theorem dX2_waxedSet_26 : decode cX2_waxedSet 26 = .ok (.iload_n 2, 1) := by decide +kernel
theorem dX2_waxedSet_27 : decode cX2_waxedSet 27 = .ok (.ishl, 1) := by decide +kernel
theorem dX2_waxedSet_28 : decode cX2_waxedSet 28 = .ok (.ior, 1) := by decide +kernel
theorem dX2_waxedSet_29 : decode cX2_waxedSet 29 = .ok (.istore_n 1, 1) := by decide +kernel
theorem dX2_waxedSet_30 : decode cX2_waxedSet 30 = .ok (.iinc 2 1, 3) := by decide +kernel
theorem dX2_waxedSet_33 : decode cX2_waxedSet 33 = .ok (.goto (-29), 3) := by decide +kernel
theorem dX2_waxedSet_36 : decode cX2_waxedSet 36 = .ok (.iload_n 1, 1) := by decide +kernel
theorem dX2_waxedSet_37 : decode cX2_waxedSet 37 = .ok (.ireturn, 1) := by decide +kernel
theorem dX3_ofLetter_0 : decode cX3_ofLetter 0 = .ok (.iload_n 0, 1) := by decide +kernel
theorem dX3_ofLetter_1 : decode cX3_ofLetter 1 = .ok (.lookupswitch 61 #[(99, 51), (102, 59), (108, 53), (115, 55), (119, 57)], 51) := by decide +kernel
theorem dX3_ofLetter_52 : decode cX3_ofLetter 52 = .ok (.iconst 1, 1) := by decide +kernel
theorem dX3_ofLetter_53 : decode cX3_ofLetter 53 = .ok (.ireturn, 1) := by decide +kernel
theorem dX3_ofLetter_54 : decode cX3_ofLetter 54 = .ok (.iconst 2, 1) := by decide +kernel
theorem dX3_ofLetter_55 : decode cX3_ofLetter 55 = .ok (.ireturn, 1) := by decide +kernel
theorem dX3_ofLetter_56 : decode cX3_ofLetter 56 = .ok (.iconst 3, 1) := by decide +kernel
theorem dX3_ofLetter_57 : decode cX3_ofLetter 57 = .ok (.ireturn, 1) := by decide +kernel
theorem dX3_ofLetter_58 : decode cX3_ofLetter 58 = .ok (.iconst 4, 1) := by decide +kernel
theorem dX3_ofLetter_59 : decode cX3_ofLetter 59 = .ok (.ireturn, 1) := by decide +kernel
theorem dX3_ofLetter_60 : decode cX3_ofLetter 60 = .ok (.iconst 5, 1) := by decide +kernel
theorem dX3_ofLetter_61 : decode cX3_ofLetter 61 = .ok (.ireturn, 1) := by decide +kernel
theorem dX3_ofLetter_62 : decode cX3_ofLetter 62 = .ok (.iconst 0, 1) := by decide +kernel
theorem dX3_ofLetter_63 : decode cX3_ofLetter 63 = .ok (.ireturn, 1) := by decide +kernel
theorem dX3_isUnder_0 : decode cX3_isUnder 0 = .ok (.iload_n 0, 1) := by decide +kernel
theorem dX3_isUnder_1 : decode cX3_isUnder 1 = .ok (.istore_n 2, 1) := by decide +kernel
theorem dX3_isUnder_2 : decode cX3_isUnder 2 = .ok (.iconst 0, 1) := by decide +kernel
theorem dX3_isUnder_3 : decode cX3_isUnder 3 = .ok (.istore_n 3, 1) := by decide +kernel
theorem dX3_isUnder_4 : decode cX3_isUnder 4 = .ok (.iload_n 3, 1) := by decide +kernel
theorem dX3_isUnder_5 : decode cX3_isUnder 5 = .ok (.getstatic 9, 3) := by decide +kernel
theorem dX3_isUnder_8 : decode cX3_isUnder 8 = .ok (.arraylength, 1) := by decide +kernel
theorem dX3_isUnder_9 : decode cX3_isUnder 9 = .ok (.if_icmp .ge 24, 3) := by decide +kernel
theorem dX3_isUnder_12 : decode cX3_isUnder 12 = .ok (.iload_n 2, 1) := by decide +kernel
theorem dX3_isUnder_13 : decode cX3_isUnder 13 = .ok (.ifCond .le 20, 3) := by decide +kernel
theorem dX3_isUnder_16 : decode cX3_isUnder 16 = .ok (.iload_n 2, 1) := by decide +kernel
theorem dX3_isUnder_17 : decode cX3_isUnder 17 = .ok (.iload_n 1, 1) := by decide +kernel
theorem dX3_isUnder_18 : decode cX3_isUnder 18 = .ok (.if_icmp .eq 15, 3) := by decide +kernel
theorem dX3_isUnder_21 : decode cX3_isUnder 21 = .ok (.getstatic 9, 3) := by decide +kernel
theorem dX3_isUnder_24 : decode cX3_isUnder 24 = .ok (.iload_n 2, 1) := by decide +kernel
theorem dX3_isUnder_25 : decode cX3_isUnder 25 = .ok (.iaload, 1) := by decide +kernel
theorem dX3_isUnder_26 : decode cX3_isUnder 26 = .ok (.istore_n 2, 1) := by decide +kernel
theorem dX3_isUnder_27 : decode cX3_isUnder 27 = .ok (.iinc 3 1, 3) := by decide +kernel
theorem dX3_isUnder_30 : decode cX3_isUnder 30 = .ok (.goto (-26), 3) := by decide +kernel
theorem dX3_isUnder_33 : decode cX3_isUnder 33 = .ok (.iload_n 2, 1) := by decide +kernel
theorem dX3_isUnder_34 : decode cX3_isUnder 34 = .ok (.iload_n 1, 1) := by decide +kernel
theorem dX3_isUnder_35 : decode cX3_isUnder 35 = .ok (.if_icmp .ne 7, 3) := by decide +kernel
theorem dX3_isUnder_38 : decode cX3_isUnder 38 = .ok (.iconst 1, 1) := by decide +kernel
theorem dX3_isUnder_39 : decode cX3_isUnder 39 = .ok (.goto 4, 3) := by decide +kernel
theorem dX3_isUnder_42 : decode cX3_isUnder 42 = .ok (.iconst 0, 1) := by decide +kernel
theorem dX3_isUnder_43 : decode cX3_isUnder 43 = .ok (.ireturn, 1) := by decide +kernel
theorem dX3_taken_0 : decode cX3_taken 0 = .ok (.iload_n 0, 1) := by decide +kernel
theorem dX3_taken_1 : decode cX3_taken 1 = .ok (.tableswitch 87 2 5 #[31, 42, 54, 68], 31) := by decide +kernel
theorem dX3_taken_32 : decode cX3_taken 32 = .ok (.iload_n 1, 1) := by decide +kernel
theorem dX3_taken_33 : decode cX3_taken 33 = .ok (.iconst 2, 1) := by decide +kernel
theorem dX3_taken_34 : decode cX3_taken 34 = .ok (.if_icmp .ge 7, 3) := by decide +kernel
theorem dX3_taken_37 : decode cX3_taken 37 = .ok (.iload_n 1, 1) := by decide +kernel
theorem dX3_taken_38 : decode cX3_taken 38 = .ok (.goto 4, 3) := by decide +kernel
theorem dX3_taken_41 : decode cX3_taken 41 = .ok (.iconst 2, 1) := by decide +kernel
theorem dX3_taken_42 : decode cX3_taken 42 = .ok (.ireturn, 1) := by decide +kernel
theorem dX3_taken_43 : decode cX3_taken 43 = .ok (.iload_n 1, 1) := by decide +kernel
theorem dX3_taken_44 : decode cX3_taken 44 = .ok (.ifCond .ne 7, 3) := by decide +kernel
theorem dX3_taken_47 : decode cX3_taken 47 = .ok (.iconst 0, 1) := by decide +kernel
theorem dX3_taken_48 : decode cX3_taken 48 = .ok (.goto 6, 3) := by decide +kernel
theorem dX3_taken_51 : decode cX3_taken 51 = .ok (.iload_n 1, 1) := by decide +kernel
theorem dX3_taken_52 : decode cX3_taken 52 = .ok (.iconst 1, 1) := by decide +kernel
theorem dX3_taken_53 : decode cX3_taken 53 = .ok (.iadd, 1) := by decide +kernel
theorem dX3_taken_54 : decode cX3_taken 54 = .ok (.ireturn, 1) := by decide +kernel
theorem dX3_taken_55 : decode cX3_taken 55 = .ok (.iload_n 1, 1) := by decide +kernel
theorem dX3_taken_56 : decode cX3_taken 56 = .ok (.ifCond .ne 7, 3) := by decide +kernel
theorem dX3_taken_59 : decode cX3_taken 59 = .ok (.iconst 0, 1) := by decide +kernel
theorem dX3_taken_60 : decode cX3_taken 60 = .ok (.goto 8, 3) := by decide +kernel
theorem dX3_taken_63 : decode cX3_taken 63 = .ok (.iload_n 1, 1) := by decide +kernel
theorem dX3_taken_64 : decode cX3_taken 64 = .ok (.iconst 2, 1) := by decide +kernel
theorem dX3_taken_65 : decode cX3_taken 65 = .ok (.idiv, 1) := by decide +kernel
theorem dX3_taken_66 : decode cX3_taken 66 = .ok (.iconst 1, 1) := by decide +kernel
theorem dX3_taken_67 : decode cX3_taken 67 = .ok (.iadd, 1) := by decide +kernel
theorem dX3_taken_68 : decode cX3_taken 68 = .ok (.ireturn, 1) := by decide +kernel
theorem dX3_taken_69 : decode cX3_taken 69 = .ok (.iload_n 1, 1) := by decide +kernel
theorem dX3_taken_70 : decode cX3_taken 70 = .ok (.ifCond .eq 8, 3) := by decide +kernel
theorem dX3_taken_73 : decode cX3_taken 73 = .ok (.iload_n 2, 1) := by decide +kernel
theorem dX3_taken_74 : decode cX3_taken 74 = .ok (.iconst 4, 1) := by decide +kernel
theorem dX3_taken_75 : decode cX3_taken 75 = .ok (.if_icmp .lt 7, 3) := by decide +kernel
theorem dX3_taken_78 : decode cX3_taken 78 = .ok (.iconst 0, 1) := by decide +kernel
theorem dX3_taken_79 : decode cX3_taken 79 = .ok (.goto 8, 3) := by decide +kernel
theorem dX3_taken_82 : decode cX3_taken 82 = .ok (.iload_n 1, 1) := by decide +kernel
theorem dX3_taken_83 : decode cX3_taken 83 = .ok (.iconst 2, 1) := by decide +kernel
theorem dX3_taken_84 : decode cX3_taken 84 = .ok (.idiv, 1) := by decide +kernel
theorem dX3_taken_85 : decode cX3_taken 85 = .ok (.iconst 1, 1) := by decide +kernel
theorem dX3_taken_86 : decode cX3_taken 86 = .ok (.iadd, 1) := by decide +kernel
theorem dX3_taken_87 : decode cX3_taken 87 = .ok (.ireturn, 1) := by decide +kernel
theorem dX3_taken_88 : decode cX3_taken 88 = .ok (.iload_n 1, 1) := by decide +kernel
theorem dX3_taken_89 : decode cX3_taken 89 = .ok (.ireturn, 1) := by decide +kernel
theorem dX3_layersCracked_0 : decode cX3_layersCracked 0 = .ok (.iload_n 0, 1) := by decide +kernel
theorem dX3_layersCracked_1 : decode cX3_layersCracked 1 = .ok (.lookupswitch 31 #[(3, 27), (4, 29)], 27) := by decide +kernel
theorem dX3_layersCracked_28 : decode cX3_layersCracked 28 = .ok (.iconst 2, 1) := by decide +kernel
theorem dX3_layersCracked_29 : decode cX3_layersCracked 29 = .ok (.ireturn, 1) := by decide +kernel
theorem dX3_layersCracked_30 : decode cX3_layersCracked 30 = .ok (.iconst 0, 1) := by decide +kernel
theorem dX3_layersCracked_31 : decode cX3_layersCracked 31 = .ok (.ireturn, 1) := by decide +kernel
theorem dX3_layersCracked_32 : decode cX3_layersCracked 32 = .ok (.iconst 1, 1) := by decide +kernel
theorem dX3_layersCracked_33 : decode cX3_layersCracked 33 = .ok (.ireturn, 1) := by decide +kernel
theorem dX3_thatTake_0 : decode cX3_thatTake 0 = .ok (.iconst 0, 1) := by decide +kernel
theorem dX3_thatTake_1 : decode cX3_thatTake 1 = .ok (.istore 5, 2) := by decide +kernel
theorem dX3_thatTake_3 : decode cX3_thatTake 3 = .ok (.iconst 1, 1) := by decide +kernel
theorem dX3_thatTake_4 : decode cX3_thatTake 4 = .ok (.istore 6, 2) := by decide +kernel
theorem dX3_thatTake_6 : decode cX3_thatTake 6 = .ok (.iload 6, 2) := by decide +kernel
theorem dX3_thatTake_8 : decode cX3_thatTake 8 = .ok (.iconst 5, 1) := by decide +kernel
theorem dX3_thatTake_9 : decode cX3_thatTake 9 = .ok (.if_icmp .gt 40, 3) := by decide +kernel
theorem dX3_thatTake_12 : decode cX3_thatTake 12 = .ok (.iload_n 0, 1) := by decide +kernel
theorem dX3_thatTake_13 : decode cX3_thatTake 13 = .ok (.iload 6, 2) := by decide +kernel
theorem dX3_thatTake_15 : decode cX3_thatTake 15 = .ok (.ishr, 1) := by decide +kernel
theorem dX3_thatTake_16 : decode cX3_thatTake 16 = .ok (.iconst 1, 1) := by decide +kernel
theorem dX3_thatTake_17 : decode cX3_thatTake 17 = .ok (.iand, 1) := by decide +kernel
theorem dX3_thatTake_18 : decode cX3_thatTake 18 = .ok (.ifCond .eq 25, 3) := by decide +kernel
theorem dX3_thatTake_21 : decode cX3_thatTake 21 = .ok (.iload 6, 2) := by decide +kernel
theorem dX3_thatTake_23 : decode cX3_thatTake 23 = .ok (.iload_n 2, 1) := by decide +kernel
theorem dX3_thatTake_24 : decode cX3_thatTake 24 = .ok (.iload_n 1, 1) := by decide +kernel
theorem dX3_thatTake_25 : decode cX3_thatTake 25 = .ok (.invokestatic 13, 3) := by decide +kernel
theorem dX3_thatTake_28 : decode cX3_thatTake 28 = .ok (.i2l, 1) := by decide +kernel
theorem dX3_thatTake_29 : decode cX3_thatTake 29 = .ok (.lload_n 3, 1) := by decide +kernel
theorem dX3_thatTake_30 : decode cX3_thatTake 30 = .ok (.lcmp, 1) := by decide +kernel
theorem dX3_thatTake_31 : decode cX3_thatTake 31 = .ok (.ifCond .ne 12, 3) := by decide +kernel
theorem dX3_thatTake_34 : decode cX3_thatTake 34 = .ok (.iload 5, 2) := by decide +kernel
theorem dX3_thatTake_36 : decode cX3_thatTake 36 = .ok (.iconst 1, 1) := by decide +kernel
theorem dX3_thatTake_37 : decode cX3_thatTake 37 = .ok (.iload 6, 2) := by decide +kernel
theorem dX3_thatTake_39 : decode cX3_thatTake 39 = .ok (.ishl, 1) := by decide +kernel
theorem dX3_thatTake_40 : decode cX3_thatTake 40 = .ok (.ior, 1) := by decide +kernel
theorem dX3_thatTake_41 : decode cX3_thatTake 41 = .ok (.istore 5, 2) := by decide +kernel
theorem dX3_thatTake_43 : decode cX3_thatTake 43 = .ok (.iinc 6 1, 3) := by decide +kernel
theorem dX3_thatTake_46 : decode cX3_thatTake 46 = .ok (.goto (-40), 3) := by decide +kernel
theorem dX3_thatTake_49 : decode cX3_thatTake 49 = .ok (.iload 5, 2) := by decide +kernel
theorem dX3_thatTake_51 : decode cX3_thatTake 51 = .ok (.ireturn, 1) := by decide +kernel
theorem dX3_bestTry_0 : decode cX3_bestTry 0 = .ok (.iconst 1, 1) := by decide +kernel
theorem dX3_bestTry_1 : decode cX3_bestTry 1 = .ok (.istore_n 2, 1) := by decide +kernel
theorem dX3_bestTry_2 : decode cX3_bestTry 2 = .ok (.iload_n 0, 1) := by decide +kernel
theorem dX3_bestTry_3 : decode cX3_bestTry 3 = .ok (.iload_n 1, 1) := by decide +kernel
theorem dX3_bestTry_4 : decode cX3_bestTry 4 = .ok (.iconst 1, 1) := by decide +kernel
theorem dX3_bestTry_5 : decode cX3_bestTry 5 = .ok (.invokestatic 17, 3) := by decide +kernel
theorem dX3_bestTry_8 : decode cX3_bestTry 8 = .ok (.istore_n 3, 1) := by decide +kernel
theorem dX3_bestTry_9 : decode cX3_bestTry 9 = .ok (.iconst 2, 1) := by decide +kernel
theorem dX3_bestTry_10 : decode cX3_bestTry 10 = .ok (.istore 4, 2) := by decide +kernel
theorem dX3_bestTry_12 : decode cX3_bestTry 12 = .ok (.iload 4, 2) := by decide +kernel
theorem dX3_bestTry_14 : decode cX3_bestTry 14 = .ok (.iconst 3, 1) := by decide +kernel
theorem dX3_bestTry_15 : decode cX3_bestTry 15 = .ok (.if_icmp .gt 30, 3) := by decide +kernel
theorem dX3_bestTry_18 : decode cX3_bestTry 18 = .ok (.iload_n 0, 1) := by decide +kernel
theorem dX3_bestTry_19 : decode cX3_bestTry 19 = .ok (.iload_n 1, 1) := by decide +kernel
theorem dX3_bestTry_20 : decode cX3_bestTry 20 = .ok (.iload 4, 2) := by decide +kernel
theorem dX3_bestTry_22 : decode cX3_bestTry 22 = .ok (.invokestatic 17, 3) := by decide +kernel
theorem dX3_bestTry_25 : decode cX3_bestTry 25 = .ok (.istore 5, 2) := by decide +kernel
theorem dX3_bestTry_27 : decode cX3_bestTry 27 = .ok (.iload 5, 2) := by decide +kernel
theorem dX3_bestTry_29 : decode cX3_bestTry 29 = .ok (.iload_n 3, 1) := by decide +kernel
theorem dX3_bestTry_30 : decode cX3_bestTry 30 = .ok (.if_icmp .ge 9, 3) := by decide +kernel
theorem dX3_bestTry_33 : decode cX3_bestTry 33 = .ok (.iload 5, 2) := by decide +kernel
theorem dX3_bestTry_35 : decode cX3_bestTry 35 = .ok (.istore_n 3, 1) := by decide +kernel
theorem dX3_bestTry_36 : decode cX3_bestTry 36 = .ok (.iload 4, 2) := by decide +kernel
theorem dX3_bestTry_38 : decode cX3_bestTry 38 = .ok (.istore_n 2, 1) := by decide +kernel
theorem dX3_bestTry_39 : decode cX3_bestTry 39 = .ok (.iinc 4 1, 3) := by decide +kernel
theorem dX3_bestTry_42 : decode cX3_bestTry 42 = .ok (.goto (-30), 3) := by decide +kernel
theorem dX3_bestTry_45 : decode cX3_bestTry 45 = .ok (.iload_n 2, 1) := by decide +kernel
theorem dX3_bestTry_46 : decode cX3_bestTry 46 = .ok (.ireturn, 1) := by decide +kernel
theorem dX3_greatestPart_0 : decode cX3_greatestPart 0 = .ok (.iconst 0, 1) := by decide +kernel
theorem dX3_greatestPart_1 : decode cX3_greatestPart 1 = .ok (.istore_n 3, 1) := by decide +kernel
theorem dX3_greatestPart_2 : decode cX3_greatestPart 2 = .ok (.iconst 0, 1) := by decide +kernel
theorem dX3_greatestPart_3 : decode cX3_greatestPart 3 = .ok (.istore 4, 2) := by decide +kernel
theorem dX3_greatestPart_5 : decode cX3_greatestPart 5 = .ok (.iload 4, 2) := by decide +kernel
theorem dX3_greatestPart_7 : decode cX3_greatestPart 7 = .ok (.iconst 4, 1) := by decide +kernel
theorem dX3_greatestPart_8 : decode cX3_greatestPart 8 = .ok (.if_icmp .gt 26, 3) := by decide +kernel
theorem dX3_greatestPart_11 : decode cX3_greatestPart 11 = .ok (.iload_n 3, 1) := by decide +kernel
theorem dX3_greatestPart_12 : decode cX3_greatestPart 12 = .ok (.iload_n 0, 1) := by decide +kernel
theorem dX3_greatestPart_13 : decode cX3_greatestPart 13 = .ok (.iload_n 1, 1) := by decide +kernel
theorem dX3_greatestPart_14 : decode cX3_greatestPart 14 = .ok (.iload_n 2, 1) := by decide +kernel
theorem dX3_greatestPart_15 : decode cX3_greatestPart 15 = .ok (.iload 4, 2) := by decide +kernel
theorem dX3_greatestPart_17 : decode cX3_greatestPart 17 = .ok (.i2l, 1) := by decide +kernel
theorem dX3_greatestPart_18 : decode cX3_greatestPart 18 = .ok (.invokestatic 20, 3) := by decide +kernel
theorem dX3_greatestPart_21 : decode cX3_greatestPart 21 = .ok (.invokestatic 24, 3) := by decide +kernel
theorem dX3_greatestPart_24 : decode cX3_greatestPart 24 = .ok (.invokestatic 30, 3) := by decide +kernel
theorem dX3_greatestPart_27 : decode cX3_greatestPart 27 = .ok (.istore_n 3, 1) := by decide +kernel
theorem dX3_greatestPart_28 : decode cX3_greatestPart 28 = .ok (.iinc 4 1, 3) := by decide +kernel
theorem dX3_greatestPart_31 : decode cX3_greatestPart 31 = .ok (.goto (-26), 3) := by decide +kernel
theorem dX3_greatestPart_34 : decode cX3_greatestPart 34 = .ok (.iload_n 3, 1) := by decide +kernel
theorem dX3_greatestPart_35 : decode cX3_greatestPart 35 = .ok (.ireturn, 1) := by decide +kernel
theorem dX4_init_0 : decode cX4_init 0 = .ok (.aload_n 0, 1) := by decide +kernel
theorem dX4_init_1 : decode cX4_init 1 = .ok (.invokespecial 1, 3) := by decide +kernel
theorem dX4_init_4 : decode cX4_init 4 = .ok (.aload_n 0, 1) := by decide +kernel
theorem dX4_init_5 : decode cX4_init 5 = .ok (.bipush 24, 2) := by decide +kernel
theorem dX4_init_7 : decode cX4_init 7 = .ok (.bipush 8, 2) := by decide +kernel
theorem dX4_init_9 : decode cX4_init 9 = .ok (.multianewarray 11 2, 4) := by decide +kernel
theorem dX4_init_13 : decode cX4_init 13 = .ok (.putfield 13, 3) := by decide +kernel
theorem dX4_init_16 : decode cX4_init 16 = .ok (.return_, 1) := by decide +kernel
theorem dX4_forget_0 : decode cX4_forget 0 = .ok (.aload_n 0, 1) := by decide +kernel
theorem dX4_forget_1 : decode cX4_forget 1 = .ok (.iconst 0, 1) := by decide +kernel
theorem dX4_forget_2 : decode cX4_forget 2 = .ok (.putfield 16, 3) := by decide +kernel
theorem dX4_forget_5 : decode cX4_forget 5 = .ok (.return_, 1) := by decide +kernel
theorem dX4_keep_0 : decode cX4_keep 0 = .ok (.aload_n 1, 1) := by decide +kernel
theorem dX4_keep_1 : decode cX4_keep 1 = .ok (.iconst 0, 1) := by decide +kernel
theorem dX4_keep_2 : decode cX4_keep 2 = .ok (.aload_n 0, 1) := by decide +kernel
theorem dX4_keep_3 : decode cX4_keep 3 = .ok (.getfield 13, 3) := by decide +kernel
theorem dX4_keep_6 : decode cX4_keep 6 = .ok (.aload_n 0, 1) := by decide +kernel
theorem dX4_keep_7 : decode cX4_keep 7 = .ok (.getfield 20, 3) := by decide +kernel
theorem dX4_keep_10 : decode cX4_keep 10 = .ok (.aaload, 1) := by decide +kernel
theorem dX4_keep_11 : decode cX4_keep 11 = .ok (.iconst 0, 1) := by decide +kernel
theorem dX4_keep_12 : decode cX4_keep 12 = .ok (.bipush 8, 2) := by decide +kernel
theorem dX4_keep_14 : decode cX4_keep 14 = .ok (.invokestatic 23, 3) := by decide +kernel
theorem dX4_keep_17 : decode cX4_keep 17 = .ok (.aload_n 0, 1) := by decide +kernel
theorem dX4_keep_18 : decode cX4_keep 18 = .ok (.aload_n 0, 1) := by decide +kernel
theorem dX4_keep_19 : decode cX4_keep 19 = .ok (.getfield 20, 3) := by decide +kernel
theorem dX4_keep_22 : decode cX4_keep 22 = .ok (.iconst 1, 1) := by decide +kernel
theorem dX4_keep_23 : decode cX4_keep 23 = .ok (.iadd, 1) := by decide +kernel
theorem dX4_keep_24 : decode cX4_keep 24 = .ok (.bipush 24, 2) := by decide +kernel
theorem dX4_keep_26 : decode cX4_keep 26 = .ok (.irem, 1) := by decide +kernel
theorem dX4_keep_27 : decode cX4_keep 27 = .ok (.putfield 20, 3) := by decide +kernel
theorem dX4_keep_30 : decode cX4_keep 30 = .ok (.aload_n 0, 1) := by decide +kernel
theorem dX4_keep_31 : decode cX4_keep 31 = .ok (.aload_n 0, 1) := by decide +kernel
theorem dX4_keep_32 : decode cX4_keep 32 = .ok (.getfield 16, 3) := by decide +kernel
theorem dX4_keep_35 : decode cX4_keep 35 = .ok (.iconst 1, 1) := by decide +kernel
theorem dX4_keep_36 : decode cX4_keep 36 = .ok (.iadd, 1) := by decide +kernel
theorem dX4_keep_37 : decode cX4_keep 37 = .ok (.bipush 24, 2) := by decide +kernel
theorem dX4_keep_39 : decode cX4_keep 39 = .ok (.invokestatic 29, 3) := by decide +kernel
theorem dX4_keep_42 : decode cX4_keep 42 = .ok (.putfield 16, 3) := by decide +kernel
theorem dX4_keep_45 : decode cX4_keep 45 = .ok (.return_, 1) := by decide +kernel
theorem dX4_takeBack_0 : decode cX4_takeBack 0 = .ok (.aload_n 0, 1) := by decide +kernel
theorem dX4_takeBack_1 : decode cX4_takeBack 1 = .ok (.getfield 16, 3) := by decide +kernel
theorem dX4_takeBack_4 : decode cX4_takeBack 4 = .ok (.ifCond .ne 5, 3) := by decide +kernel
theorem dX4_takeBack_7 : decode cX4_takeBack 7 = .ok (.iconst 0, 1) := by decide +kernel
theorem dX4_takeBack_8 : decode cX4_takeBack 8 = .ok (.ireturn, 1) := by decide +kernel
theorem dX4_takeBack_9 : decode cX4_takeBack 9 = .ok (.aload_n 0, 1) := by decide +kernel
theorem dX4_takeBack_10 : decode cX4_takeBack 10 = .ok (.aload_n 0, 1) := by decide +kernel
theorem dX4_takeBack_11 : decode cX4_takeBack 11 = .ok (.getfield 20, 3) := by decide +kernel
theorem dX4_takeBack_14 : decode cX4_takeBack 14 = .ok (.bipush 24, 2) := by decide +kernel
theorem dX4_takeBack_16 : decode cX4_takeBack 16 = .ok (.iadd, 1) := by decide +kernel
theorem dX4_takeBack_17 : decode cX4_takeBack 17 = .ok (.iconst 1, 1) := by decide +kernel
theorem dX4_takeBack_18 : decode cX4_takeBack 18 = .ok (.isub, 1) := by decide +kernel
theorem dX4_takeBack_19 : decode cX4_takeBack 19 = .ok (.bipush 24, 2) := by decide +kernel
theorem dX4_takeBack_21 : decode cX4_takeBack 21 = .ok (.irem, 1) := by decide +kernel
theorem dX4_takeBack_22 : decode cX4_takeBack 22 = .ok (.putfield 20, 3) := by decide +kernel
theorem dX4_takeBack_25 : decode cX4_takeBack 25 = .ok (.aload_n 0, 1) := by decide +kernel
theorem dX4_takeBack_26 : decode cX4_takeBack 26 = .ok (.dup, 1) := by decide +kernel
theorem dX4_takeBack_27 : decode cX4_takeBack 27 = .ok (.getfield 16, 3) := by decide +kernel
theorem dX4_takeBack_30 : decode cX4_takeBack 30 = .ok (.iconst 1, 1) := by decide +kernel
theorem dX4_takeBack_31 : decode cX4_takeBack 31 = .ok (.isub, 1) := by decide +kernel
theorem dX4_takeBack_32 : decode cX4_takeBack 32 = .ok (.putfield 16, 3) := by decide +kernel
theorem dX4_takeBack_35 : decode cX4_takeBack 35 = .ok (.aload_n 0, 1) := by decide +kernel
theorem dX4_takeBack_36 : decode cX4_takeBack 36 = .ok (.getfield 13, 3) := by decide +kernel
theorem dX4_takeBack_39 : decode cX4_takeBack 39 = .ok (.aload_n 0, 1) := by decide +kernel
theorem dX4_takeBack_40 : decode cX4_takeBack 40 = .ok (.getfield 20, 3) := by decide +kernel
theorem dX4_takeBack_43 : decode cX4_takeBack 43 = .ok (.aaload, 1) := by decide +kernel
theorem dX4_takeBack_44 : decode cX4_takeBack 44 = .ok (.iconst 0, 1) := by decide +kernel
theorem dX4_takeBack_45 : decode cX4_takeBack 45 = .ok (.aload_n 1, 1) := by decide +kernel
theorem dX4_takeBack_46 : decode cX4_takeBack 46 = .ok (.iconst 0, 1) := by decide +kernel
theorem dX4_takeBack_47 : decode cX4_takeBack 47 = .ok (.bipush 8, 2) := by decide +kernel
theorem dX4_takeBack_49 : decode cX4_takeBack 49 = .ok (.invokestatic 23, 3) := by decide +kernel
theorem dX4_takeBack_52 : decode cX4_takeBack 52 = .ok (.iconst 1, 1) := by decide +kernel
theorem dX4_takeBack_53 : decode cX4_takeBack 53 = .ok (.ireturn, 1) := by decide +kernel
theorem dX5_init_0 : decode cX5_init 0 = .ok (.aload_n 0, 1) := by decide +kernel
theorem dX5_init_1 : decode cX5_init 1 = .ok (.invokespecial 3, 3) := by decide +kernel
theorem dX5_init_4 : decode cX5_init 4 = .ok (.aload_n 0, 1) := by decide +kernel
theorem dX5_init_5 : decode cX5_init 5 = .ok (.iconst 4, 1) := by decide +kernel
theorem dX5_init_6 : decode cX5_init 6 = .ok (.newarray .int, 2) := by decide +kernel
theorem dX5_init_8 : decode cX5_init 8 = .ok (.putfield 9, 3) := by decide +kernel
theorem dX5_init_11 : decode cX5_init 11 = .ok (.aload_n 0, 1) := by decide +kernel
theorem dX5_init_12 : decode cX5_init 12 = .ok (.iconst 4, 1) := by decide +kernel
theorem dX5_init_13 : decode cX5_init 13 = .ok (.newarray .int, 2) := by decide +kernel
theorem dX5_init_15 : decode cX5_init 15 = .ok (.putfield 15, 3) := by decide +kernel
theorem dX5_init_18 : decode cX5_init 18 = .ok (.aload_n 0, 1) := by decide +kernel
theorem dX5_init_19 : decode cX5_init 19 = .ok (.iconst 5, 1) := by decide +kernel
theorem dX5_init_20 : decode cX5_init 20 = .ok (.bipush 8, 2) := by decide +kernel
theorem dX5_init_22 : decode cX5_init 22 = .ok (.multianewarray 20 2, 4) := by decide +kernel
theorem dX5_init_26 : decode cX5_init 26 = .ok (.putfield 22, 3) := by decide +kernel
theorem dX5_init_29 : decode cX5_init 29 = .ok (.return_, 1) := by decide +kernel
theorem dX5_search_0 : decode cX5_search 0 = .ok (.aload_n 1, 1) := by decide +kernel
theorem dX5_search_1 : decode cX5_search 1 = .ok (.getfield 25, 3) := by decide +kernel
theorem dX5_search_4 : decode cX5_search 4 = .ok (.iconst 0, 1) := by decide +kernel
theorem dX5_search_5 : decode cX5_search 5 = .ok (.aload_n 0, 1) := by decide +kernel
theorem dX5_search_6 : decode cX5_search 6 = .ok (.getfield 22, 3) := by decide +kernel
theorem dX5_search_9 : decode cX5_search 9 = .ok (.iconst 0, 1) := by decide +kernel
theorem dX5_search_10 : decode cX5_search 10 = .ok (.aaload, 1) := by decide +kernel
theorem dX5_search_11 : decode cX5_search 11 = .ok (.iconst 0, 1) := by decide +kernel
theorem dX5_search_12 : decode cX5_search 12 = .ok (.bipush 8, 2) := by decide +kernel
theorem dX5_search_14 : decode cX5_search 14 = .ok (.invokestatic 28, 3) := by decide +kernel
theorem dX5_search_17 : decode cX5_search 17 = .ok (.aload_n 0, 1) := by decide +kernel
theorem dX5_search_18 : decode cX5_search 18 = .ok (.aload_n 1, 1) := by decide +kernel
theorem dX5_search_19 : decode cX5_search 19 = .ok (.aload_n 1, 1) := by decide +kernel
theorem dX5_search_20 : decode cX5_search 20 = .ok (.getfield 25, 3) := by decide +kernel
theorem dX5_search_23 : decode cX5_search 23 = .ok (.invokevirtual 34, 3) := by decide +kernel
theorem dX5_search_26 : decode cX5_search 26 = .ok (.putfield 38, 3) := by decide +kernel
theorem dX5_search_29 : decode cX5_search 29 = .ok (.aload_n 0, 1) := by decide +kernel
theorem dX5_search_30 : decode cX5_search 30 = .ok (.iconst 0, 1) := by decide +kernel
theorem dX5_search_31 : decode cX5_search 31 = .ok (.putfield 42, 3) := by decide +kernel
theorem dX5_search_34 : decode cX5_search 34 = .ok (.iconst 1, 1) := by decide +kernel
theorem dX5_search_35 : decode cX5_search 35 = .ok (.istore_n 3, 1) := by decide +kernel
theorem dX5_search_36 : decode cX5_search 36 = .ok (.iload_n 3, 1) := by decide +kernel
theorem dX5_search_37 : decode cX5_search 37 = .ok (.iload_n 2, 1) := by decide +kernel
theorem dX5_search_38 : decode cX5_search 38 = .ok (.if_icmp .gt 27, 3) := by decide +kernel
theorem dX5_search_41 : decode cX5_search 41 = .ok (.aload_n 0, 1) := by decide +kernel
theorem dX5_search_42 : decode cX5_search 42 = .ok (.getfield 38, 3) := by decide +kernel
theorem dX5_search_45 : decode cX5_search 45 = .ok (.aload_n 1, 1) := by decide +kernel
theorem dX5_search_46 : decode cX5_search 46 = .ok (.getfield 45, 3) := by decide +kernel
theorem dX5_search_49 : decode cX5_search 49 = .ok (.if_icmp .ge 16, 3) := by decide +kernel
theorem dX5_search_52 : decode cX5_search 52 = .ok (.aload_n 0, 1) := by decide +kernel
theorem dX5_search_53 : decode cX5_search 53 = .ok (.aload_n 1, 1) := by decide +kernel
theorem dX5_search_54 : decode cX5_search 54 = .ok (.iconst 0, 1) := by decide +kernel
theorem dX5_search_55 : decode cX5_search 55 = .ok (.iload_n 3, 1) := by decide +kernel
theorem dX5_search_56 : decode cX5_search 56 = .ok (.invokevirtual 48, 3) := by decide +kernel
theorem dX5_search_59 : decode cX5_search 59 = .ok (.iinc 3 1, 3) := by decide +kernel
theorem dX5_search_62 : decode cX5_search 62 = .ok (.goto (-26), 3) := by decide +kernel
theorem dX5_search_65 : decode cX5_search 65 = .ok (.return_, 1) := by decide +kernel
theorem dX5_extend_0 : decode cX5_extend 0 = .ok (.iload_n 2, 1) := by decide +kernel
theorem dX5_extend_1 : decode cX5_extend 1 = .ok (.iconst 4, 1) := by decide +kernel
theorem dX5_extend_2 : decode cX5_extend 2 = .ok (.if_icmp .lt 4, 3) := by decide +kernel
theorem dX5_extend_5 : decode cX5_extend 5 = .ok (.return_, 1) := by decide +kernel
theorem dX5_extend_6 : decode cX5_extend 6 = .ok (.iload_n 2, 1) := by decide +kernel
theorem dX5_extend_7 : decode cX5_extend 7 = .ok (.iconst 1, 1) := by decide +kernel
theorem dX5_extend_8 : decode cX5_extend 8 = .ok (.iadd, 1) := by decide +kernel
theorem dX5_extend_9 : decode cX5_extend 9 = .ok (.iload_n 3, 1) := by decide +kernel
theorem dX5_extend_10 : decode cX5_extend 10 = .ok (.if_icmp .ne 7, 3) := by decide +kernel
theorem dX5_extend_13 : decode cX5_extend 13 = .ok (.iconst 1, 1) := by decide +kernel
theorem dX5_extend_14 : decode cX5_extend 14 = .ok (.goto 4, 3) := by decide +kernel
theorem dX5_extend_17 : decode cX5_extend 17 = .ok (.iconst 0, 1) := by decide +kernel
theorem dX5_extend_18 : decode cX5_extend 18 = .ok (.istore 4, 2) := by decide +kernel
theorem dX5_extend_20 : decode cX5_extend 20 = .ok (.iconst 0, 1) := by decide +kernel
theorem dX5_extend_21 : decode cX5_extend 21 = .ok (.istore 5, 2) := by decide +kernel
theorem dX5_extend_23 : decode cX5_extend 23 = .ok (.iload 5, 2) := by decide +kernel
theorem dX5_extend_25 : decode cX5_extend 25 = .ok (.aload_n 1, 1) := by decide +kernel
theorem dX5_extend_26 : decode cX5_extend 26 = .ok (.invokevirtual 52, 3) := by decide +kernel
theorem dX5_extend_29 : decode cX5_extend 29 = .ok (.if_icmp .ge 103, 3) := by decide +kernel
theorem dX5_extend_32 : decode cX5_extend 32 = .ok (.aload_n 0, 1) := by decide +kernel
theorem dX5_extend_33 : decode cX5_extend 33 = .ok (.getfield 15, 3) := by decide +kernel
theorem dX5_extend_36 : decode cX5_extend 36 = .ok (.iload_n 2, 1) := by decide +kernel
theorem dX5_extend_37 : decode cX5_extend 37 = .ok (.aload_n 1, 1) := by decide +kernel
theorem dX5_extend_38 : decode cX5_extend 38 = .ok (.iload 5, 2) := by decide +kernel
theorem dX5_extend_40 : decode cX5_extend 40 = .ok (.invokevirtual 56, 3) := by decide +kernel
theorem dX5_extend_43 : decode cX5_extend 43 = .ok (.iastore, 1) := by decide +kernel
theorem dX5_extend_44 : decode cX5_extend 44 = .ok (.iload 4, 2) := by decide +kernel
theorem dX5_extend_46 : decode cX5_extend 46 = .ok (.ifCond .eq 18, 3) := by decide +kernel
theorem dX5_extend_49 : decode cX5_extend 49 = .ok (.aload_n 0, 1) := by decide +kernel
theorem dX5_extend_50 : decode cX5_extend 50 = .ok (.getfield 15, 3) := by decide +kernel
theorem dX5_extend_53 : decode cX5_extend 53 = .ok (.iload_n 2, 1) := by decide +kernel
theorem dX5_extend_54 : decode cX5_extend 54 = .ok (.iaload, 1) := by decide +kernel
theorem dX5_extend_55 : decode cX5_extend 55 = .ok (.invokestatic 60, 3) := by decide +kernel
theorem dX5_extend_58 : decode cX5_extend 58 = .ok (.ifCond .eq 6, 3) := by decide +kernel
theorem dX5_extend_61 : decode cX5_extend 61 = .ok (.goto 65, 3) := by decide +kernel
theorem dX5_extend_64 : decode cX5_extend 64 = .ok (.aload_n 1, 1) := by decide +kernel
theorem dX5_extend_65 : decode cX5_extend 65 = .ok (.aload_n 0, 1) := by decide +kernel
theorem dX5_extend_66 : decode cX5_extend 66 = .ok (.getfield 15, 3) := by decide +kernel
theorem dX5_extend_69 : decode cX5_extend 69 = .ok (.iload_n 2, 1) := by decide +kernel
theorem dX5_extend_70 : decode cX5_extend 70 = .ok (.iaload, 1) := by decide +kernel
theorem dX5_extend_71 : decode cX5_extend 71 = .ok (.aload_n 0, 1) := by decide +kernel
theorem dX5_extend_72 : decode cX5_extend 72 = .ok (.getfield 22, 3) := by decide +kernel
theorem dX5_extend_75 : decode cX5_extend 75 = .ok (.iload_n 2, 1) := by decide +kernel
theorem dX5_extend_76 : decode cX5_extend 76 = .ok (.aaload, 1) := by decide +kernel
theorem dX5_extend_77 : decode cX5_extend 77 = .ok (.aload_n 0, 1) := by decide +kernel
theorem dX5_extend_78 : decode cX5_extend 78 = .ok (.getfield 22, 3) := by decide +kernel
theorem dX5_extend_81 : decode cX5_extend 81 = .ok (.iload_n 2, 1) := by decide +kernel
theorem dX5_extend_82 : decode cX5_extend 82 = .ok (.iconst 1, 1) := by decide +kernel
theorem dX5_extend_83 : decode cX5_extend 83 = .ok (.iadd, 1) := by decide +kernel
theorem dX5_extend_84 : decode cX5_extend 84 = .ok (.aaload, 1) := by decide +kernel
theorem dX5_extend_85 : decode cX5_extend 85 = .ok (.invokevirtual 64, 3) := by decide +kernel
theorem dX5_extend_88 : decode cX5_extend 88 = .ok (.ifCond .ne 6, 3) := by decide +kernel
theorem dX5_extend_91 : decode cX5_extend 91 = .ok (.goto 35, 3) := by decide +kernel
theorem dX5_extend_94 : decode cX5_extend 94 = .ok (.iload 4, 2) := by decide +kernel
theorem dX5_extend_96 : decode cX5_extend 96 = .ok (.ifCond .eq 21, 3) := by decide +kernel
theorem dX5_extend_99 : decode cX5_extend 99 = .ok (.aload_n 0, 1) := by decide +kernel
theorem dX5_extend_100 : decode cX5_extend 100 = .ok (.aload_n 1, 1) := by decide +kernel
theorem dX5_extend_101 : decode cX5_extend 101 = .ok (.aload_n 0, 1) := by decide +kernel
theorem dX5_extend_102 : decode cX5_extend 102 = .ok (.getfield 22, 3) := by decide +kernel
theorem dX5_extend_105 : decode cX5_extend 105 = .ok (.iload_n 3, 1) := by decide +kernel
theorem dX5_extend_106 : decode cX5_extend 106 = .ok (.aaload, 1) := by decide +kernel
theorem dX5_extend_107 : decode cX5_extend 107 = .ok (.invokevirtual 34, 3) := by decide +kernel
theorem dX5_extend_110 : decode cX5_extend 110 = .ok (.iload_n 3, 1) := by decide +kernel
theorem dX5_extend_111 : decode cX5_extend 111 = .ok (.invokevirtual 68, 3) := by decide +kernel
theorem dX5_extend_114 : decode cX5_extend 114 = .ok (.goto 12, 3) := by decide +kernel
theorem dX5_extend_117 : decode cX5_extend 117 = .ok (.aload_n 0, 1) := by decide +kernel
theorem dX5_extend_118 : decode cX5_extend 118 = .ok (.aload_n 1, 1) := by decide +kernel
theorem dX5_extend_119 : decode cX5_extend 119 = .ok (.iload_n 2, 1) := by decide +kernel
theorem dX5_extend_120 : decode cX5_extend 120 = .ok (.iconst 1, 1) := by decide +kernel
theorem dX5_extend_121 : decode cX5_extend 121 = .ok (.iadd, 1) := by decide +kernel
theorem dX5_extend_122 : decode cX5_extend 122 = .ok (.iload_n 3, 1) := by decide +kernel
theorem dX5_extend_123 : decode cX5_extend 123 = .ok (.invokevirtual 48, 3) := by decide +kernel
theorem dX5_extend_126 : decode cX5_extend 126 = .ok (.iinc 5 1, 3) := by decide +kernel
theorem dX5_extend_129 : decode cX5_extend 129 = .ok (.goto (-106), 3) := by decide +kernel
theorem dX5_extend_132 : decode cX5_extend 132 = .ok (.return_, 1) := by decide +kernel
