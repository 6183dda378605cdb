theorem dX0_init_0 : decode cX0_init 0 = .ok (.aload_n 0, 1) := by decide +kernel
theorem dX0_init_1 : decode cX0_init 1 = .ok (.invokespecial 3, 3) := by decide +kernel
theorem dX0_init_4 : decode cX0_init 4 = .ok (.aload_n 0, 1) := by decide +kernel
theorem dX0_init_5 : decode cX0_init 5 = .ok (.bipush 60, 2) := by decide +kernel
theorem dX0_init_7 : decode cX0_init 7 = .ok (.newarray .long, 2) := by decide +kernel
theorem dX0_init_9 : decode cX0_init 9 = .ok (.putfield 9, 3) := by decide +kernel
theorem dX0_init_12 : decode cX0_init 12 = .ok (.aload_n 0, 1) := by decide +kernel
theorem dX0_init_13 : decode cX0_init 13 = .ok (.bipush 60, 2) := by decide +kernel
theorem dX0_init_15 : decode cX0_init 15 = .ok (.newarray .int, 2) := by decide +kernel
theorem dX0_init_17 : decode cX0_init 17 = .ok (.putfield 15, 3) := by decide +kernel
theorem dX0_init_20 : decode cX0_init 20 = .ok (.aload_n 0, 1) := by decide +kernel
theorem dX0_init_21 : decode cX0_init 21 = .ok (.bipush 60, 2) := by decide +kernel
theorem dX0_init_23 : decode cX0_init 23 = .ok (.newarray .long, 2) := by decide +kernel
theorem dX0_init_25 : decode cX0_init 25 = .ok (.putfield 19, 3) := by decide +kernel
theorem dX0_init_28 : decode cX0_init 28 = .ok (.aload_n 0, 1) := by decide +kernel
theorem dX0_init_29 : decode cX0_init 29 = .ok (.bipush 60, 2) := by decide +kernel
theorem dX0_init_31 : decode cX0_init 31 = .ok (.newarray .long, 2) := by decide +kernel
theorem dX0_init_33 : decode cX0_init 33 = .ok (.putfield 22, 3) := by decide +kernel
theorem dX0_init_36 : decode cX0_init 36 = .ok (.aload_n 0, 1) := by decide +kernel
theorem dX0_init_37 : decode cX0_init 37 = .ok (.iconst 0, 1) := by decide +kernel
theorem dX0_init_38 : decode cX0_init 38 = .ok (.putfield 25, 3) := by decide +kernel
theorem dX0_init_41 : decode cX0_init 41 = .ok (.return_, 1) := by decide +kernel
theorem dX0_count_0 : decode cX0_count 0 = .ok (.aload_n 0, 1) := by decide +kernel
theorem dX0_count_1 : decode cX0_count 1 = .ok (.getfield 25, 3) := by decide +kernel
theorem dX0_count_4 : decode cX0_count 4 = .ok (.ireturn, 1) := by decide +kernel
theorem dX0_has_0 : decode cX0_has 0 = .ok (.iload_n 1, 1) := by decide +kernel
theorem dX0_has_1 : decode cX0_has 1 = .ok (.ifCond .lt 15, 3) := by decide +kernel
theorem dX0_has_4 : decode cX0_has 4 = .ok (.iload_n 1, 1) := by decide +kernel
theorem dX0_has_5 : decode cX0_has 5 = .ok (.aload_n 0, 1) := by decide +kernel
theorem dX0_has_6 : decode cX0_has 6 = .ok (.getfield 25, 3) := by decide +kernel
theorem dX0_has_9 : decode cX0_has 9 = .ok (.if_icmp .ge 7, 3) := by decide +kernel
theorem dX0_has_12 : decode cX0_has 12 = .ok (.iconst 1, 1) := by decide +kernel
theorem dX0_has_13 : decode cX0_has 13 = .ok (.goto 4, 3) := by decide +kernel
theorem dX0_has_16 : decode cX0_has 16 = .ok (.iconst 0, 1) := by decide +kernel
theorem dX0_has_17 : decode cX0_has 17 = .ok (.ireturn, 1) := by decide +kernel
theorem dX0_valueOf_0 : decode cX0_valueOf 0 = .ok (.aload_n 0, 1) := by decide +kernel
theorem dX0_valueOf_1 : decode cX0_valueOf 1 = .ok (.iload_n 1, 1) := by decide +kernel
theorem dX0_valueOf_2 : decode cX0_valueOf 2 = .ok (.invokevirtual 29, 3) := by decide +kernel
theorem dX0_valueOf_5 : decode cX0_valueOf 5 = .ok (.ifCond .eq 12, 3) := by decide +kernel
theorem dX0_valueOf_8 : decode cX0_valueOf 8 = .ok (.aload_n 0, 1) := by decide +kernel
theorem dX0_valueOf_9 : decode cX0_valueOf 9 = .ok (.getfield 9, 3) := by decide +kernel
theorem dX0_valueOf_12 : decode cX0_valueOf 12 = .ok (.iload_n 1, 1) := by decide +kernel
theorem dX0_valueOf_13 : decode cX0_valueOf 13 = .ok (.laload, 1) := by decide +kernel
theorem dX0_valueOf_14 : decode cX0_valueOf 14 = .ok (.goto 4, 3) := by decide +kernel
theorem dX0_valueOf_17 : decode cX0_valueOf 17 = .ok (.lconst 0, 1) := by decide +kernel
theorem dX0_valueOf_18 : decode cX0_valueOf 18 = .ok (.lreturn, 1) := by decide +kernel
theorem dX0_rowsOf_0 : decode cX0_rowsOf 0 = .ok (.aload_n 0, 1) := by decide +kernel
theorem dX0_rowsOf_1 : decode cX0_rowsOf 1 = .ok (.iload_n 1, 1) := by decide +kernel
theorem dX0_rowsOf_2 : decode cX0_rowsOf 2 = .ok (.invokevirtual 29, 3) := by decide +kernel
theorem dX0_rowsOf_5 : decode cX0_rowsOf 5 = .ok (.ifCond .eq 13, 3) := by decide +kernel
theorem dX0_rowsOf_8 : decode cX0_rowsOf 8 = .ok (.aload_n 0, 1) := by decide +kernel
theorem dX0_rowsOf_9 : decode cX0_rowsOf 9 = .ok (.getfield 15, 3) := by decide +kernel
theorem dX0_rowsOf_12 : decode cX0_rowsOf 12 = .ok (.iload_n 1, 1) := by decide +kernel
theorem dX0_rowsOf_13 : decode cX0_rowsOf 13 = .ok (.iaload, 1) := by decide +kernel
theorem dX0_rowsOf_14 : decode cX0_rowsOf 14 = .ok (.i2l, 1) := by decide +kernel
theorem dX0_rowsOf_15 : decode cX0_rowsOf 15 = .ok (.goto 4, 3) := by decide +kernel
theorem dX0_rowsOf_18 : decode cX0_rowsOf 18 = .ok (.lconst 0, 1) := by decide +kernel
theorem dX0_rowsOf_19 : decode cX0_rowsOf 19 = .ok (.lreturn, 1) := by decide +kernel
theorem dX0_lowOf_0 : decode cX0_lowOf 0 = .ok (.aload_n 0, 1) := by decide +kernel
theorem dX0_lowOf_1 : decode cX0_lowOf 1 = .ok (.iload_n 1, 1) := by decide +kernel
theorem dX0_lowOf_2 : decode cX0_lowOf 2 = .ok (.invokevirtual 29, 3) := by decide +kernel
theorem dX0_lowOf_5 : decode cX0_lowOf 5 = .ok (.ifCond .eq 12, 3) := by decide +kernel
theorem dX0_lowOf_8 : decode cX0_lowOf 8 = .ok (.aload_n 0, 1) := by decide +kernel
theorem dX0_lowOf_9 : decode cX0_lowOf 9 = .ok (.getfield 19, 3) := by decide +kernel
theorem dX0_lowOf_12 : decode cX0_lowOf 12 = .ok (.iload_n 1, 1) := by decide +kernel
theorem dX0_lowOf_13 : decode cX0_lowOf 13 = .ok (.laload, 1) := by decide +kernel
theorem dX0_lowOf_14 : decode cX0_lowOf 14 = .ok (.goto 4, 3) := by decide +kernel
theorem dX0_lowOf_17 : decode cX0_lowOf 17 = .ok (.lconst 0, 1) := by decide +kernel
theorem dX0_lowOf_18 : decode cX0_lowOf 18 = .ok (.lreturn, 1) := by decide +kernel
theorem dX0_highOf_0 : decode cX0_highOf 0 = .ok (.aload_n 0, 1) := by decide +kernel
theorem dX0_highOf_1 : decode cX0_highOf 1 = .ok (.iload_n 1, 1) := by decide +kernel
theorem dX0_highOf_2 : decode cX0_highOf 2 = .ok (.invokevirtual 29, 3) := by decide +kernel
theorem dX0_highOf_5 : decode cX0_highOf 5 = .ok (.ifCond .eq 12, 3) := by decide +kernel
theorem dX0_highOf_8 : decode cX0_highOf 8 = .ok (.aload_n 0, 1) := by decide +kernel
theorem dX0_highOf_9 : decode cX0_highOf 9 = .ok (.getfield 22, 3) := by decide +kernel
theorem dX0_highOf_12 : decode cX0_highOf 12 = .ok (.iload_n 1, 1) := by decide +kernel
theorem dX0_highOf_13 : decode cX0_highOf 13 = .ok (.laload, 1) := by decide +kernel
theorem dX0_highOf_14 : decode cX0_highOf 14 = .ok (.goto 4, 3) := by decide +kernel
theorem dX0_highOf_17 : decode cX0_highOf 17 = .ok (.lconst 0, 1) := by decide +kernel
theorem dX0_highOf_18 : decode cX0_highOf 18 = .ok (.lreturn, 1) := by decide +kernel
theorem dX0_add_0 : decode cX0_add 0 = .ok (.aload_n 0, 1) := by decide +kernel
theorem dX0_add_1 : decode cX0_add 1 = .ok (.lload_n 1, 1) := by decide +kernel
theorem dX0_add_2 : decode cX0_add 2 = .ok (.invokevirtual 33, 3) := by decide +kernel
theorem dX0_add_5 : decode cX0_add 5 = .ok (.istore 5, 2) := by decide +kernel
theorem dX0_add_7 : decode cX0_add 7 = .ok (.aload_n 0, 1) := by decide +kernel
theorem dX0_add_8 : decode cX0_add 8 = .ok (.iload 5, 2) := by decide +kernel
theorem dX0_add_10 : decode cX0_add 10 = .ok (.invokevirtual 29, 3) := by decide +kernel
theorem dX0_add_13 : decode cX0_add 13 = .ok (.ifCond .eq 15, 3) := by decide +kernel
theorem dX0_add_16 : decode cX0_add 16 = .ok (.aload_n 0, 1) := by decide +kernel
theorem dX0_add_17 : decode cX0_add 17 = .ok (.getfield 9, 3) := by decide +kernel
theorem dX0_add_20 : decode cX0_add 20 = .ok (.iload 5, 2) := by decide +kernel
theorem dX0_add_22 : decode cX0_add 22 = .ok (.laload, 1) := by decide +kernel
theorem dX0_add_23 : decode cX0_add 23 = .ok (.lload_n 1, 1) := by decide +kernel
theorem dX0_add_24 : decode cX0_add 24 = .ok (.lcmp, 1) := by decide +kernel
theorem dX0_add_25 : decode cX0_add 25 = .ok (.ifCond .eq 20, 3) := by decide +kernel
theorem dX0_add_28 : decode cX0_add 28 = .ok (.aload_n 0, 1) := by decide +kernel
theorem dX0_add_29 : decode cX0_add 29 = .ok (.getfield 25, 3) := by decide +kernel
theorem dX0_add_32 : decode cX0_add 32 = .ok (.bipush 60, 2) := by decide +kernel
theorem dX0_add_34 : decode cX0_add 34 = .ok (.if_icmp .lt 4, 3) := by decide +kernel
theorem dX0_add_37 : decode cX0_add 37 = .ok (.return_, 1) := by decide +kernel
theorem dX0_add_38 : decode cX0_add 38 = .ok (.aload_n 0, 1) := by decide +kernel
theorem dX0_add_39 : decode cX0_add 39 = .ok (.iload 5, 2) := by decide +kernel
theorem dX0_add_41 : decode cX0_add 41 = .ok (.lload_n 1, 1) := by decide +kernel
theorem dX0_add_42 : decode cX0_add 42 = .ok (.invokevirtual 37, 3) := by decide +kernel
theorem dX0_add_45 : decode cX0_add 45 = .ok (.aload_n 0, 1) := by decide +kernel
theorem dX0_add_46 : decode cX0_add 46 = .ok (.getfield 19, 3) := by decide +kernel
theorem dX0_add_49 : decode cX0_add 49 = .ok (.iload 5, 2) := by decide +kernel
theorem dX0_add_51 : decode cX0_add 51 = .ok (.laload, 1) := by decide +kernel
theorem dX0_add_52 : decode cX0_add 52 = .ok (.lload_n 3, 1) := by decide +kernel
theorem dX0_add_53 : decode cX0_add 53 = .ok (.ladd, 1) := by decide +kernel
theorem dX0_add_54 : decode cX0_add 54 = .ok (.lstore 6, 2) := by decide +kernel
theorem dX0_add_56 : decode cX0_add 56 = .ok (.aload_n 0, 1) := by decide +kernel
theorem dX0_add_57 : decode cX0_add 57 = .ok (.getfield 22, 3) := by decide +kernel
theorem dX0_add_60 : decode cX0_add 60 = .ok (.iload 5, 2) := by decide +kernel
theorem dX0_add_62 : decode cX0_add 62 = .ok (.dup2, 1) := by decide +kernel
theorem dX0_add_63 : decode cX0_add 63 = .ok (.laload, 1) := by decide +kernel
theorem dX0_add_64 : decode cX0_add 64 = .ok (.lload_n 3, 1) := by decide +kernel
theorem dX0_add_65 : decode cX0_add 65 = .ok (.invokestatic 41, 3) := by decide +kernel
theorem dX0_add_68 : decode cX0_add 68 = .ok (.lload 6, 2) := by decide +kernel
theorem dX0_add_70 : decode cX0_add 70 = .ok (.lload_n 3, 1) := by decide +kernel
theorem dX0_add_71 : decode cX0_add 71 = .ok (.invokestatic 45, 3) := by decide +kernel
theorem dX0_add_74 : decode cX0_add 74 = .ok (.ifCond .eq 7, 3) := by decide +kernel
theorem dX0_add_77 : decode cX0_add 77 = .ok (.iconst 1, 1) := by decide +kernel
theorem dX0_add_78 : decode cX0_add 78 = .ok (.goto 4, 3) := by decide +kernel
theorem dX0_add_81 : decode cX0_add 81 = .ok (.iconst 0, 1) := by decide +kernel
theorem dX0_add_82 : decode cX0_add 82 = .ok (.i2l, 1) := by decide +kernel
theorem dX0_add_83 : decode cX0_add 83 = .ok (.ladd, 1) := by decide +kernel
theorem dX0_add_84 : decode cX0_add 84 = .ok (.ladd, 1) := by decide +kernel
theorem dX0_add_85 : decode cX0_add 85 = .ok (.lastore, 1) := by decide +kernel
theorem dX0_add_86 : decode cX0_add 86 = .ok (.aload_n 0, 1) := by decide +kernel
theorem dX0_add_87 : decode cX0_add 87 = .ok (.getfield 19, 3) := by decide +kernel
theorem dX0_add_90 : decode cX0_add 90 = .ok (.iload 5, 2) := by decide +kernel
theorem dX0_add_92 : decode cX0_add 92 = .ok (.lload 6, 2) := by decide +kernel
theorem dX0_add_94 : decode cX0_add 94 = .ok (.lastore, 1) := by decide +kernel
theorem dX0_add_95 : decode cX0_add 95 = .ok (.aload_n 0, 1) := by decide +kernel
theorem dX0_add_96 : decode cX0_add 96 = .ok (.getfield 15, 3) := by decide +kernel
theorem dX0_add_99 : decode cX0_add 99 = .ok (.iload 5, 2) := by decide +kernel
theorem dX0_add_101 : decode cX0_add 101 = .ok (.dup2, 1) := by decide +kernel
theorem dX0_add_102 : decode cX0_add 102 = .ok (.iaload, 1) := by decide +kernel
theorem dX0_add_103 : decode cX0_add 103 = .ok (.iconst 1, 1) := by decide +kernel
theorem dX0_add_104 : decode cX0_add 104 = .ok (.iadd, 1) := by decide +kernel
theorem dX0_add_105 : decode cX0_add 105 = .ok (.iastore, 1) := by decide +kernel
theorem dX0_add_106 : decode cX0_add 106 = .ok (.return_, 1) := by decide +kernel
theorem dX0_subtract_0 : decode cX0_subtract 0 = .ok (.aload_n 0, 1) := by decide +kernel
theorem dX0_subtract_1 : decode cX0_subtract 1 = .ok (.lload_n 1, 1) := by decide +kernel
theorem dX0_subtract_2 : decode cX0_subtract 2 = .ok (.invokevirtual 33, 3) := by decide +kernel
theorem dX0_subtract_5 : decode cX0_subtract 5 = .ok (.istore 5, 2) := by decide +kernel
theorem dX0_subtract_7 : decode cX0_subtract 7 = .ok (.aload_n 0, 1) := by decide +kernel
theorem dX0_subtract_8 : decode cX0_subtract 8 = .ok (.iload 5, 2) := by decide +kernel
theorem dX0_subtract_10 : decode cX0_subtract 10 = .ok (.invokevirtual 29, 3) := by decide +kernel
theorem dX0_subtract_13 : decode cX0_subtract 13 = .ok (.ifCond .eq 15, 3) := by decide +kernel
theorem dX0_subtract_16 : decode cX0_subtract 16 = .ok (.aload_n 0, 1) := by decide +kernel
theorem dX0_subtract_17 : decode cX0_subtract 17 = .ok (.getfield 9, 3) := by decide +kernel
theorem dX0_subtract_20 : decode cX0_subtract 20 = .ok (.iload 5, 2) := by decide +kernel
theorem dX0_subtract_22 : decode cX0_subtract 22 = .ok (.laload, 1) := by decide +kernel
theorem dX0_subtract_23 : decode cX0_subtract 23 = .ok (.lload_n 1, 1) := by decide +kernel
theorem dX0_subtract_24 : decode cX0_subtract 24 = .ok (.lcmp, 1) := by decide +kernel
theorem dX0_subtract_25 : decode cX0_subtract 25 = .ok (.ifCond .eq 4, 3) := by decide +kernel
theorem dX0_subtract_28 : decode cX0_subtract 28 = .ok (.return_, 1) := by decide +kernel
theorem dX0_subtract_29 : decode cX0_subtract 29 = .ok (.aload_n 0, 1) := by decide +kernel
theorem dX0_subtract_30 : decode cX0_subtract 30 = .ok (.getfield 22, 3) := by decide +kernel
theorem dX0_subtract_33 : decode cX0_subtract 33 = .ok (.iload 5, 2) := by decide +kernel
theorem dX0_subtract_35 : decode cX0_subtract 35 = .ok (.dup2, 1) := by decide +kernel
theorem dX0_subtract_36 : decode cX0_subtract 36 = .ok (.laload, 1) := by decide +kernel
theorem dX0_subtract_37 : decode cX0_subtract 37 = .ok (.lload_n 3, 1) := by decide +kernel
theorem dX0_subtract_38 : decode cX0_subtract 38 = .ok (.invokestatic 41, 3) := by decide +kernel
theorem dX0_subtract_41 : decode cX0_subtract 41 = .ok (.aload_n 0, 1) := by decide +kernel
theorem dX0_subtract_42 : decode cX0_subtract 42 = .ok (.getfield 19, 3) := by decide +kernel
theorem dX0_subtract_45 : decode cX0_subtract 45 = .ok (.iload 5, 2) := by decide +kernel
theorem dX0_subtract_47 : decode cX0_subtract 47 = .ok (.laload, 1) := by decide +kernel
theorem dX0_subtract_48 : decode cX0_subtract 48 = .ok (.lload_n 3, 1) := by decide +kernel
theorem dX0_subtract_49 : decode cX0_subtract 49 = .ok (.invokestatic 45, 3) := by decide +kernel
theorem dX0_subtract_52 : decode cX0_subtract 52 = .ok (.ifCond .eq 7, 3) := by decide +kernel
theorem dX0_subtract_55 : decode cX0_subtract 55 = .ok (.iconst 1, 1) := by decide +kernel
theorem dX0_subtract_56 : decode cX0_subtract 56 = .ok (.goto 4, 3) := by decide +kernel
theorem dX0_subtract_59 : decode cX0_subtract 59 = .ok (.iconst 0, 1) := by decide +kernel
theorem dX0_subtract_60 : decode cX0_subtract 60 = .ok (.i2l, 1) := by decide +kernel
theorem dX0_subtract_61 : decode cX0_subtract 61 = .ok (.ladd, 1) := by decide +kernel
theorem dX0_subtract_62 : decode cX0_subtract 62 = .ok (.lsub, 1) := by decide +kernel
theorem dX0_subtract_63 : decode cX0_subtract 63 = .ok (.lastore, 1) := by decide +kernel
theorem dX0_subtract_64 : decode cX0_subtract 64 = .ok (.aload_n 0, 1) := by decide +kernel
theorem dX0_subtract_65 : decode cX0_subtract 65 = .ok (.getfield 19, 3) := by decide +kernel
theorem dX0_subtract_68 : decode cX0_subtract 68 = .ok (.iload 5, 2) := by decide +kernel
theorem dX0_subtract_70 : decode cX0_subtract 70 = .ok (.dup2, 1) := by decide +kernel
theorem dX0_subtract_71 : decode cX0_subtract 71 = .ok (.laload, 1) := by decide +kernel
theorem dX0_subtract_72 : decode cX0_subtract 72 = .ok (.lload_n 3, 1) := by decide +kernel
theorem dX0_subtract_73 : decode cX0_subtract 73 = .ok (.lsub, 1) := by decide +kernel
theorem dX0_subtract_74 : decode cX0_subtract 74 = .ok (.lastore, 1) := by decide +kernel
theorem dX0_subtract_75 : decode cX0_subtract 75 = .ok (.aload_n 0, 1) := by decide +kernel
theorem dX0_subtract_76 : decode cX0_subtract 76 = .ok (.getfield 15, 3) := by decide +kernel
theorem dX0_subtract_79 : decode cX0_subtract 79 = .ok (.iload 5, 2) := by decide +kernel
theorem dX0_subtract_81 : decode cX0_subtract 81 = .ok (.dup2, 1) := by decide +kernel
theorem dX0_subtract_82 : decode cX0_subtract 82 = .ok (.iaload, 1) := by decide +kernel
theorem dX0_subtract_83 : decode cX0_subtract 83 = .ok (.iconst 1, 1) := by decide +kernel
theorem dX0_subtract_84 : decode cX0_subtract 84 = .ok (.isub, 1) := by decide +kernel
theorem dX0_subtract_85 : decode cX0_subtract 85 = .ok (.iastore, 1) := by decide +kernel
theorem dX0_subtract_86 : decode cX0_subtract 86 = .ok (.aload_n 0, 1) := by decide +kernel
theorem dX0_subtract_87 : decode cX0_subtract 87 = .ok (.getfield 15, 3) := by decide +kernel
theorem dX0_subtract_90 : decode cX0_subtract 90 = .ok (.iload 5, 2) := by decide +kernel
theorem dX0_subtract_92 : decode cX0_subtract 92 = .ok (.iaload, 1) := by decide +kernel
theorem dX0_subtract_93 : decode cX0_subtract 93 = .ok (.ifCond .ne 9, 3) := by decide +kernel
theorem dX0_subtract_96 : decode cX0_subtract 96 = .ok (.aload_n 0, 1) := by decide +kernel
theorem dX0_subtract_97 : decode cX0_subtract 97 = .ok (.iload 5, 2) := by decide +kernel
theorem dX0_subtract_99 : decode cX0_subtract 99 = .ok (.invokevirtual 49, 3) := by decide +kernel
theorem dX0_subtract_102 : decode cX0_subtract 102 = .ok (.return_, 1) := by decide +kernel
theorem dX0_placeOf_0 : decode cX0_placeOf 0 = .ok (.iconst 0, 1) := by decide +kernel
theorem dX0_placeOf_1 : decode cX0_placeOf 1 = .ok (.istore_n 3, 1) := by decide +kernel
theorem dX0_placeOf_2 : decode cX0_placeOf 2 = .ok (.iload_n 3, 1) := by decide +kernel
theorem dX0_placeOf_3 : decode cX0_placeOf 3 = .ok (.aload_n 0, 1) := by decide +kernel
theorem dX0_placeOf_4 : decode cX0_placeOf 4 = .ok (.getfield 25, 3) := by decide +kernel
theorem dX0_placeOf_7 : decode cX0_placeOf 7 = .ok (.if_icmp .ge 22, 3) := by decide +kernel
theorem dX0_placeOf_10 : decode cX0_placeOf 10 = .ok (.aload_n 0, 1) := by decide +kernel
theorem dX0_placeOf_11 : decode cX0_placeOf 11 = .ok (.getfield 9, 3) := by decide +kernel
theorem dX0_placeOf_14 : decode cX0_placeOf 14 = .ok (.iload_n 3, 1) := by decide +kernel
theorem dX0_placeOf_15 : decode cX0_placeOf 15 = .ok (.laload, 1) := by decide +kernel
theorem dX0_placeOf_16 : decode cX0_placeOf 16 = .ok (.lload_n 1, 1) := by decide +kernel
theorem dX0_placeOf_17 : decode cX0_placeOf 17 = .ok (.lcmp, 1) := by decide +kernel
theorem dX0_placeOf_18 : decode cX0_placeOf 18 = .ok (.ifCond .lt 5, 3) := by decide +kernel
theorem dX0_placeOf_21 : decode cX0_placeOf 21 = .ok (.iload_n 3, 1) := by decide +kernel
theorem dX0_placeOf_22 : decode cX0_placeOf 22 = .ok (.ireturn, 1) := by decide +kernel
theorem dX0_placeOf_23 : decode cX0_placeOf 23 = .ok (.iinc 3 1, 3) := by decide +kernel
theorem dX0_placeOf_26 : decode cX0_placeOf 26 = .ok (.goto (-24), 3) := by decide +kernel
theorem dX0_placeOf_29 : decode cX0_placeOf 29 = .ok (.aload_n 0, 1) := by decide +kernel
theorem dX0_placeOf_30 : decode cX0_placeOf 30 = .ok (.getfield 25, 3) := by decide +kernel
theorem dX0_placeOf_33 : decode cX0_placeOf 33 = .ok (.ireturn, 1) := by decide +kernel
theorem dX0_open_0 : decode cX0_open 0 = .ok (.aload_n 0, 1) := by decide +kernel
theorem dX0_open_1 : decode cX0_open 1 = .ok (.getfield 25, 3) := by decide +kernel
theorem dX0_open_4 : decode cX0_open 4 = .ok (.istore 4, 2) := by decide +kernel
theorem dX0_open_6 : decode cX0_open 6 = .ok (.iload 4, 2) := by decide +kernel
theorem dX0_open_8 : decode cX0_open 8 = .ok (.iload_n 1, 1) := by decide +kernel
theorem dX0_open_9 : decode cX0_open 9 = .ok (.if_icmp .le 19, 3) := by decide +kernel
theorem dX0_open_12 : decode cX0_open 12 = .ok (.aload_n 0, 1) := by decide +kernel
theorem dX0_open_13 : decode cX0_open 13 = .ok (.iload 4, 2) := by decide +kernel
theorem dX0_open_15 : decode cX0_open 15 = .ok (.iconst 1, 1) := by decide +kernel
theorem dX0_open_16 : decode cX0_open 16 = .ok (.isub, 1) := by decide +kernel
theorem dX0_open_17 : decode cX0_open 17 = .ok (.iload 4, 2) := by decide +kernel
theorem dX0_open_19 : decode cX0_open 19 = .ok (.invokevirtual 53, 3) := by decide +kernel
theorem dX0_open_22 : decode cX0_open 22 = .ok (.iinc 4 (-1), 3) := by decide +kernel
theorem dX0_open_25 : decode cX0_open 25 = .ok (.goto (-19), 3) := by decide +kernel
theorem dX0_open_28 : decode cX0_open 28 = .ok (.aload_n 0, 1) := by decide +kernel
theorem dX0_open_29 : decode cX0_open 29 = .ok (.getfield 9, 3) := by decide +kernel
theorem dX0_open_32 : decode cX0_open 32 = .ok (.iload_n 1, 1) := by decide +kernel
theorem dX0_open_33 : decode cX0_open 33 = .ok (.lload_n 2, 1) := by decide +kernel
theorem dX0_open_34 : decode cX0_open 34 = .ok (.lastore, 1) := by decide +kernel
theorem dX0_open_35 : decode cX0_open 35 = .ok (.aload_n 0, 1) := by decide +kernel
theorem dX0_open_36 : decode cX0_open 36 = .ok (.getfield 15, 3) := by decide +kernel
theorem dX0_open_39 : decode cX0_open 39 = .ok (.iload_n 1, 1) := by decide +kernel
theorem dX0_open_40 : decode cX0_open 40 = .ok (.iconst 0, 1) := by decide +kernel
theorem dX0_open_41 : decode cX0_open 41 = .ok (.iastore, 1) := by decide +kernel
theorem dX0_open_42 : decode cX0_open 42 = .ok (.aload_n 0, 1) := by decide +kernel
theorem dX0_open_43 : decode cX0_open 43 = .ok (.getfield 19, 3) := by decide +kernel
theorem dX0_open_46 : decode cX0_open 46 = .ok (.iload_n 1, 1) := by decide +kernel
theorem dX0_open_47 : decode cX0_open 47 = .ok (.lconst 0, 1) := by decide +kernel
theorem dX0_open_48 : decode cX0_open 48 = .ok (.lastore, 1) := by decide +kernel
theorem dX0_open_49 : decode cX0_open 49 = .ok (.aload_n 0, 1) := by decide +kernel
theorem dX0_open_50 : decode cX0_open 50 = .ok (.getfield 22, 3) := by decide +kernel
theorem dX0_open_53 : decode cX0_open 53 = .ok (.iload_n 1, 1) := by decide +kernel
theorem dX0_open_54 : decode cX0_open 54 = .ok (.lconst 0, 1) := by decide +kernel
theorem dX0_open_55 : decode cX0_open 55 = .ok (.lastore, 1) := by decide +kernel
theorem dX0_open_56 : decode cX0_open 56 = .ok (.aload_n 0, 1) := by decide +kernel
theorem dX0_open_57 : decode cX0_open 57 = .ok (.dup, 1) := by decide +kernel
theorem dX0_open_58 : decode cX0_open 58 = .ok (.getfield 25, 3) := by decide +kernel
theorem dX0_open_61 : decode cX0_open 61 = .ok (.iconst 1, 1) := by decide +kernel
theorem dX0_open_62 : decode cX0_open 62 = .ok (.iadd, 1) := by decide +kernel
theorem dX0_open_63 : decode cX0_open 63 = .ok (.putfield 25, 3) := by decide +kernel
theorem dX0_open_66 : decode cX0_open 66 = .ok (.return_, 1) := by decide +kernel
theorem dX0_close_0 : decode cX0_close 0 = .ok (.iload_n 1, 1) := by decide +kernel
theorem dX0_close_1 : decode cX0_close 1 = .ok (.iconst 1, 1) := by decide +kernel
theorem dX0_close_2 : decode cX0_close 2 = .ok (.iadd, 1) := by decide +kernel
theorem dX0_close_3 : decode cX0_close 3 = .ok (.istore_n 2, 1) := by decide +kernel
theorem dX0_close_4 : decode cX0_close 4 = .ok (.iload_n 2, 1) := by decide +kernel
theorem dX0_close_5 : decode cX0_close 5 = .ok (.aload_n 0, 1) := by decide +kernel
theorem dX0_close_6 : decode cX0_close 6 = .ok (.getfield 25, 3) := by decide +kernel
theorem dX0_close_9 : decode cX0_close 9 = .ok (.if_icmp .ge 17, 3) := by decide +kernel
theorem dX0_close_12 : decode cX0_close 12 = .ok (.aload_n 0, 1) := by decide +kernel
theorem dX0_close_13 : decode cX0_close 13 = .ok (.iload_n 2, 1) := by decide +kernel
theorem dX0_close_14 : decode cX0_close 14 = .ok (.iload_n 2, 1) := by decide +kernel
theorem dX0_close_15 : decode cX0_close 15 = .ok (.iconst 1, 1) := by decide +kernel
theorem dX0_close_16 : decode cX0_close 16 = .ok (.isub, 1) := by decide +kernel
theorem dX0_close_17 : decode cX0_close 17 = .ok (.invokevirtual 53, 3) := by decide +kernel
theorem dX0_close_20 : decode cX0_close 20 = .ok (.iinc 2 1, 3) := by decide +kernel
theorem dX0_close_23 : decode cX0_close 23 = .ok (.goto (-19), 3) := by decide +kernel
theorem dX0_close_26 : decode cX0_close 26 = .ok (.aload_n 0, 1) := by decide +kernel
theorem dX0_close_27 : decode cX0_close 27 = .ok (.dup, 1) := by decide +kernel
theorem dX0_close_28 : decode cX0_close 28 = .ok (.getfield 25, 3) := by decide +kernel
theorem dX0_close_31 : decode cX0_close 31 = .ok (.iconst 1, 1) := by decide +kernel
theorem dX0_close_32 : decode cX0_close 32 = .ok (.isub, 1) := by decide +kernel
theorem dX0_close_33 : decode cX0_close 33 = .ok (.putfield 25, 3) := by decide +kernel
theorem dX0_close_36 : decode cX0_close 36 = .ok (.return_, 1) := by decide +kernel
theorem dX0_copy_0 : decode cX0_copy 0 = .ok (.aload_n 0, 1) := by decide +kernel
theorem dX0_copy_1 : decode cX0_copy 1 = .ok (.getfield 9, 3) := by decide +kernel
theorem dX0_copy_4 : decode cX0_copy 4 = .ok (.iload_n 2, 1) := by decide +kernel
theorem dX0_copy_5 : decode cX0_copy 5 = .ok (.aload_n 0, 1) := by decide +kernel
theorem dX0_copy_6 : decode cX0_copy 6 = .ok (.getfield 9, 3) := by decide +kernel
theorem dX0_copy_9 : decode cX0_copy 9 = .ok (.iload_n 1, 1) := by decide +kernel
theorem dX0_copy_10 : decode cX0_copy 10 = .ok (.laload, 1) := by decide +kernel
theorem dX0_copy_11 : decode cX0_copy 11 = .ok (.lastore, 1) := by decide +kernel
theorem dX0_copy_12 : decode cX0_copy 12 = .ok (.aload_n 0, 1) := by decide +kernel
theorem dX0_copy_13 : decode cX0_copy 13 = .ok (.getfield 15, 3) := by decide +kernel
theorem dX0_copy_16 : decode cX0_copy 16 = .ok (.iload_n 2, 1) := by decide +kernel
theorem dX0_copy_17 : decode cX0_copy 17 = .ok (.aload_n 0, 1) := by decide +kernel
theorem dX0_copy_18 : decode cX0_copy 18 = .ok (.getfield 15, 3) := by decide +kernel
theorem dX0_copy_21 : decode cX0_copy 21 = .ok (.iload_n 1, 1) := by decide +kernel
theorem dX0_copy_22 : decode cX0_copy 22 = .ok (.iaload, 1) := by decide +kernel
theorem dX0_copy_23 : decode cX0_copy 23 = .ok (.iastore, 1) := by decide +kernel
theorem dX0_copy_24 : decode cX0_copy 24 = .ok (.aload_n 0, 1) := by decide +kernel
theorem dX0_copy_25 : decode cX0_copy 25 = .ok (.getfield 19, 3) := by decide +kernel
theorem dX0_copy_28 : decode cX0_copy 28 = .ok (.iload_n 2, 1) := by decide +kernel
theorem dX0_copy_29 : decode cX0_copy 29 = .ok (.aload_n 0, 1) := by decide +kernel
theorem dX0_copy_30 : decode cX0_copy 30 = .ok (.getfield 19, 3) := by decide +kernel
theorem dX0_copy_33 : decode cX0_copy 33 = .ok (.iload_n 1, 1) := by decide +kernel
theorem dX0_copy_34 : decode cX0_copy 34 = .ok (.laload, 1) := by decide +kernel
theorem dX0_copy_35 : decode cX0_copy 35 = .ok (.lastore, 1) := by decide +kernel
theorem dX0_copy_36 : decode cX0_copy 36 = .ok (.aload_n 0, 1) := by decide +kernel
theorem dX0_copy_37 : decode cX0_copy 37 = .ok (.getfield 22, 3) := by decide +kernel
theorem dX0_copy_40 : decode cX0_copy 40 = .ok (.iload_n 2, 1) := by decide +kernel
theorem dX0_copy_41 : decode cX0_copy 41 = .ok (.aload_n 0, 1) := by decide +kernel
theorem dX0_copy_42 : decode cX0_copy 42 = .ok (.getfield 22, 3) := by decide +kernel
theorem dX0_copy_45 : decode cX0_copy 45 = .ok (.iload_n 1, 1) := by decide +kernel
theorem dX0_copy_46 : decode cX0_copy 46 = .ok (.laload, 1) := by decide +kernel
theorem dX0_copy_47 : decode cX0_copy 47 = .ok (.lastore, 1) := by decide +kernel
theorem dX0_copy_48 : decode cX0_copy 48 = .ok (.return_, 1) := by decide +kernel
theorem dX0_signOf_0 : decode cX0_signOf 0 = .ok (.lload_n 0, 1) := by decide +kernel
theorem dX0_signOf_1 : decode cX0_signOf 1 = .ok (.lconst 0, 1) := by decide +kernel
theorem dX0_signOf_2 : decode cX0_signOf 2 = .ok (.lcmp, 1) := by decide +kernel
theorem dX0_signOf_3 : decode cX0_signOf 3 = .ok (.ifCond .ge 9, 3) := by decide +kernel
theorem dX0_signOf_6 : decode cX0_signOf 6 = .ok (.ldc2_w 57, 3) := by decide +kernel
theorem dX0_signOf_9 : decode cX0_signOf 9 = .ok (.goto 4, 3) := by decide +kernel
theorem dX0_signOf_12 : decode cX0_signOf 12 = .ok (.lconst 0, 1) := by decide +kernel
theorem dX0_signOf_13 : decode cX0_signOf 13 = .ok (.lreturn, 1) := by decide +kernel
theorem dX0_isLessUnsigned_0 : decode cX0_isLessUnsigned 0 = .ok (.lload_n 0, 1) := by decide +kernel
theorem dX0_isLessUnsigned_1 : decode cX0_isLessUnsigned 1 = .ok (.ldc2_w 59, 3) := by decide +kernel
theorem dX0_isLessUnsigned_4 : decode cX0_isLessUnsigned 4 = .ok (.lxor, 1) := by decide +kernel
theorem dX0_isLessUnsigned_5 : decode cX0_isLessUnsigned 5 = .ok (.lload_n 2, 1) := by decide +kernel
theorem dX0_isLessUnsigned_6 : decode cX0_isLessUnsigned 6 = .ok (.ldc2_w 59, 3) := by decide +kernel
theorem dX0_isLessUnsigned_9 : decode cX0_isLessUnsigned 9 = .ok (.lxor, 1) := by decide +kernel
theorem dX0_isLessUnsigned_10 : decode cX0_isLessUnsigned 10 = .ok (.lcmp, 1) := by decide +kernel
theorem dX0_isLessUnsigned_11 : decode cX0_isLessUnsigned 11 = .ok (.ifCond .ge 7, 3) := by decide +kernel
theorem dX0_isLessUnsigned_14 : decode cX0_isLessUnsigned 14 = .ok (.iconst 1, 1) := by decide +kernel
theorem dX0_isLessUnsigned_15 : decode cX0_isLessUnsigned 15 = .ok (.goto 4, 3) := by decide +kernel
theorem dX0_isLessUnsigned_18 : decode cX0_isLessUnsigned 18 = .ok (.iconst 0, 1) := by decide +kernel
theorem dX0_isLessUnsigned_19 : decode cX0_isLessUnsigned 19 = .ok (.ireturn, 1) := by decide +kernel
theorem dX1_init_0 : decode cX1_init 0 = .ok (.aload_n 0, 1) := by decide +kernel
theorem dX1_init_1 : decode cX1_init 1 = .ok (.invokespecial 3, 3) := by decide +kernel
theorem dX1_init_4 : decode cX1_init 4 = .ok (.aload_n 0, 1) := by decide +kernel
theorem dX1_init_5 : decode cX1_init 5 = .ok (.new 9, 3) := by decide +kernel
theorem dX1_init_8 : decode cX1_init 8 = .ok (.dup, 1) := by decide +kernel
theorem dX1_init_9 : decode cX1_init 9 = .ok (.invokespecial 11, 3) := by decide +kernel
theorem dX1_init_12 : decode cX1_init 12 = .ok (.putfield 12, 3) := by decide +kernel
theorem dX1_init_15 : decode cX1_init 15 = .ok (.aload_n 0, 1) := by decide +kernel
theorem dX1_init_16 : decode cX1_init 16 = .ok (.new 18, 3) := by decide +kernel
theorem dX1_init_19 : decode cX1_init 19 = .ok (.dup, 1) := by decide +kernel
theorem dX1_init_20 : decode cX1_init 20 = .ok (.invokespecial 20, 3) := by decide +kernel
theorem dX1_init_23 : decode cX1_init 23 = .ok (.putfield 21, 3) := by decide +kernel
theorem dX1_init_26 : decode cX1_init 26 = .ok (.aload_n 0, 1) := by decide +kernel
theorem dX1_init_27 : decode cX1_init 27 = .ok (.bipush 60, 2) := by decide +kernel
theorem dX1_init_29 : decode cX1_init 29 = .ok (.newarray .long, 2) := by decide +kernel
theorem dX1_init_31 : decode cX1_init 31 = .ok (.putfield 25, 3) := by decide +kernel
theorem dX1_init_34 : decode cX1_init 34 = .ok (.aload_n 0, 1) := by decide +kernel
theorem dX1_init_35 : decode cX1_init 35 = .ok (.bipush 60, 2) := by decide +kernel
theorem dX1_init_37 : decode cX1_init 37 = .ok (.newarray .boolean, 2) := by decide +kernel
theorem dX1_init_39 : decode cX1_init 39 = .ok (.putfield 29, 3) := by decide +kernel
theorem dX1_init_42 : decode cX1_init 42 = .ok (.aload_n 0, 1) := by decide +kernel
theorem dX1_init_43 : decode cX1_init 43 = .ok (.bipush 60, 2) := by decide +kernel
theorem dX1_init_45 : decode cX1_init 45 = .ok (.newarray .long, 2) := by decide +kernel
theorem dX1_init_47 : decode cX1_init 47 = .ok (.putfield 33, 3) := by decide +kernel
theorem dX1_init_50 : decode cX1_init 50 = .ok (.aload_n 0, 1) := by decide +kernel
theorem dX1_init_51 : decode cX1_init 51 = .ok (.bipush 60, 2) := by decide +kernel
theorem dX1_init_53 : decode cX1_init 53 = .ok (.newarray .long, 2) := by decide +kernel
theorem dX1_init_55 : decode cX1_init 55 = .ok (.putfield 36, 3) := by decide +kernel
theorem dX1_init_58 : decode cX1_init 58 = .ok (.aload_n 0, 1) := by decide +kernel
theorem dX1_init_59 : decode cX1_init 59 = .ok (.bipush 60, 2) := by decide +kernel
theorem dX1_init_61 : decode cX1_init 61 = .ok (.newarray .long, 2) := by decide +kernel
theorem dX1_init_63 : decode cX1_init 63 = .ok (.putfield 39, 3) := by decide +kernel
theorem dX1_init_66 : decode cX1_init 66 = .ok (.aload_n 0, 1) := by decide +kernel
theorem dX1_init_67 : decode cX1_init 67 = .ok (.bipush 60, 2) := by decide +kernel
theorem dX1_init_69 : decode cX1_init 69 = .ok (.newarray .int, 2) := by decide +kernel
theorem dX1_init_71 : decode cX1_init 71 = .ok (.putfield 42, 3) := by decide +kernel
theorem dX1_init_74 : decode cX1_init 74 = .ok (.aload_n 0, 1) := by decide +kernel
theorem dX1_init_75 : decode cX1_init 75 = .ok (.iconst 0, 1) := by decide +kernel
theorem dX1_init_76 : decode cX1_init 76 = .ok (.putfield 46, 3) := by decide +kernel
theorem dX1_init_79 : decode cX1_init 79 = .ok (.aload_n 0, 1) := by decide +kernel
theorem dX1_init_80 : decode cX1_init 80 = .ok (.lconst 0, 1) := by decide +kernel
theorem dX1_init_81 : decode cX1_init 81 = .ok (.putfield 50, 3) := by decide +kernel
theorem dX1_init_84 : decode cX1_init 84 = .ok (.aload_n 0, 1) := by decide +kernel
theorem dX1_init_85 : decode cX1_init 85 = .ok (.lconst 0, 1) := by decide +kernel
theorem dX1_init_86 : decode cX1_init 86 = .ok (.putfield 54, 3) := by decide +kernel
theorem dX1_init_89 : decode cX1_init 89 = .ok (.aload_n 0, 1) := by decide +kernel
theorem dX1_init_90 : decode cX1_init 90 = .ok (.lconst 0, 1) := by decide +kernel
theorem dX1_init_91 : decode cX1_init 91 = .ok (.putfield 57, 3) := by decide +kernel
theorem dX1_init_94 : decode cX1_init 94 = .ok (.aload_n 0, 1) := by decide +kernel
theorem dX1_init_95 : decode cX1_init 95 = .ok (.aload_n 1, 1) := by decide +kernel
theorem dX1_init_96 : decode cX1_init 96 = .ok (.putfield 60, 3) := by decide +kernel
theorem dX1_init_99 : decode cX1_init 99 = .ok (.aload_n 0, 1) := by decide +kernel
theorem dX1_init_100 : decode cX1_init 100 = .ok (.aload_n 2, 1) := by decide +kernel
theorem dX1_init_101 : decode cX1_init 101 = .ok (.putfield 64, 3) := by decide +kernel
theorem dX1_init_104 : decode cX1_init 104 = .ok (.return_, 1) := by decide +kernel
theorem dX1_begin_0 : decode cX1_begin 0 = .ok (.iconst 0, 1) := by decide +kernel
theorem dX1_begin_1 : decode cX1_begin 1 = .ok (.istore_n 1, 1) := by decide +kernel
theorem dX1_begin_2 : decode cX1_begin 2 = .ok (.iload_n 1, 1) := by decide +kernel
theorem dX1_begin_3 : decode cX1_begin 3 = .ok (.aload_n 0, 1) := by decide +kernel
theorem dX1_begin_4 : decode cX1_begin 4 = .ok (.getfield 60, 3) := by decide +kernel
theorem dX1_begin_7 : decode cX1_begin 7 = .ok (.invokevirtual 68, 3) := by decide +kernel
theorem dX1_begin_10 : decode cX1_begin 10 = .ok (.if_icmp .ge 14, 3) := by decide +kernel
theorem dX1_begin_13 : decode cX1_begin 13 = .ok (.aload_n 0, 1) := by decide +kernel
theorem dX1_begin_14 : decode cX1_begin 14 = .ok (.iload_n 1, 1) := by decide +kernel
theorem dX1_begin_15 : decode cX1_begin 15 = .ok (.invokevirtual 74, 3) := by decide +kernel
theorem dX1_begin_18 : decode cX1_begin 18 = .ok (.iinc 1 1, 3) := by decide +kernel
theorem dX1_begin_21 : decode cX1_begin 21 = .ok (.goto (-19), 3) := by decide +kernel
theorem dX1_begin_24 : decode cX1_begin 24 = .ok (.aload_n 0, 1) := by decide +kernel
theorem dX1_begin_25 : decode cX1_begin 25 = .ok (.aload_n 0, 1) := by decide +kernel
theorem dX1_begin_26 : decode cX1_begin 26 = .ok (.invokevirtual 78, 3) := by decide +kernel
theorem dX1_begin_29 : decode cX1_begin 29 = .ok (.putfield 50, 3) := by decide +kernel
theorem dX1_begin_32 : decode cX1_begin 32 = .ok (.return_, 1) := by decide +kernel
theorem dX1_follow_0 : decode cX1_follow 0 = .ok (.iconst 0, 1) := by decide +kernel
theorem dX1_follow_1 : decode cX1_follow 1 = .ok (.istore_n 2, 1) := by decide +kernel
theorem dX1_follow_2 : decode cX1_follow 2 = .ok (.iload_n 2, 1) := by decide +kernel
theorem dX1_follow_3 : decode cX1_follow 3 = .ok (.aload_n 0, 1) := by decide +kernel
theorem dX1_follow_4 : decode cX1_follow 4 = .ok (.getfield 60, 3) := by decide +kernel
theorem dX1_follow_7 : decode cX1_follow 7 = .ok (.invokevirtual 68, 3) := by decide +kernel
theorem dX1_follow_10 : decode cX1_follow 10 = .ok (.if_icmp .ge 28, 3) := by decide +kernel
theorem dX1_follow_13 : decode cX1_follow 13 = .ok (.iload_n 2, 1) := by decide +kernel
theorem dX1_follow_14 : decode cX1_follow 14 = .ok (.iload_n 1, 1) := by decide +kernel
theorem dX1_follow_15 : decode cX1_follow 15 = .ok (.if_icmp .eq 12, 3) := by decide +kernel
theorem dX1_follow_18 : decode cX1_follow 18 = .ok (.aload_n 0, 1) := by decide +kernel
theorem dX1_follow_19 : decode cX1_follow 19 = .ok (.iload_n 2, 1) := by decide +kernel
theorem dX1_follow_20 : decode cX1_follow 20 = .ok (.iload_n 1, 1) := by decide +kernel
theorem dX1_follow_21 : decode cX1_follow 21 = .ok (.invokevirtual 82, 3) := by decide +kernel
theorem dX1_follow_24 : decode cX1_follow 24 = .ok (.ifCond .eq 8, 3) := by decide +kernel
theorem dX1_follow_27 : decode cX1_follow 27 = .ok (.aload_n 0, 1) := by decide +kernel
theorem dX1_follow_28 : decode cX1_follow 28 = .ok (.iload_n 2, 1) := by decide +kernel
theorem dX1_follow_29 : decode cX1_follow 29 = .ok (.invokevirtual 74, 3) := by decide +kernel
theorem dX1_follow_32 : decode cX1_follow 32 = .ok (.iinc 2 1, 3) := by decide +kernel
theorem dX1_follow_35 : decode cX1_follow 35 = .ok (.goto (-33), 3) := by decide +kernel
theorem dX1_follow_38 : decode cX1_follow 38 = .ok (.aload_n 0, 1) := by decide +kernel
theorem dX1_follow_39 : decode cX1_follow 39 = .ok (.getfield 50, 3) := by decide +kernel
theorem dX1_follow_42 : decode cX1_follow 42 = .ok (.lstore_n 2, 1) := by decide +kernel
theorem dX1_follow_43 : decode cX1_follow 43 = .ok (.aload_n 0, 1) := by decide +kernel
theorem dX1_follow_44 : decode cX1_follow 44 = .ok (.aload_n 0, 1) := by decide +kernel
theorem dX1_follow_45 : decode cX1_follow 45 = .ok (.invokevirtual 78, 3) := by decide +kernel
theorem dX1_follow_48 : decode cX1_follow 48 = .ok (.putfield 50, 3) := by decide +kernel
theorem dX1_follow_51 : decode cX1_follow 51 = .ok (.aload_n 0, 1) := by decide +kernel
theorem dX1_follow_52 : decode cX1_follow 52 = .ok (.lload_n 2, 1) := by decide +kernel
theorem dX1_follow_53 : decode cX1_follow 53 = .ok (.aload_n 0, 1) := by decide +kernel
theorem dX1_follow_54 : decode cX1_follow 54 = .ok (.getfield 50, 3) := by decide +kernel
theorem dX1_follow_57 : decode cX1_follow 57 = .ok (.ldc2_w 86, 3) := by decide +kernel
theorem dX1_follow_60 : decode cX1_follow 60 = .ok (.lxor, 1) := by decide +kernel
theorem dX1_follow_61 : decode cX1_follow 61 = .ok (.land, 1) := by decide +kernel
theorem dX1_follow_62 : decode cX1_follow 62 = .ok (.putfield 54, 3) := by decide +kernel
theorem dX1_follow_65 : decode cX1_follow 65 = .ok (.aload_n 0, 1) := by decide +kernel
theorem dX1_follow_66 : decode cX1_follow 66 = .ok (.aload_n 0, 1) := by decide +kernel
theorem dX1_follow_67 : decode cX1_follow 67 = .ok (.getfield 50, 3) := by decide +kernel
theorem dX1_follow_70 : decode cX1_follow 70 = .ok (.lload_n 2, 1) := by decide +kernel
theorem dX1_follow_71 : decode cX1_follow 71 = .ok (.ldc2_w 86, 3) := by decide +kernel
theorem dX1_follow_74 : decode cX1_follow 74 = .ok (.lxor, 1) := by decide +kernel
theorem dX1_follow_75 : decode cX1_follow 75 = .ok (.land, 1) := by decide +kernel
theorem dX1_follow_76 : decode cX1_follow 76 = .ok (.putfield 57, 3) := by decide +kernel
theorem dX1_follow_79 : decode cX1_follow 79 = .ok (.return_, 1) := by decide +kernel
theorem dX1_inCount_0 : decode cX1_inCount 0 = .ok (.aload_n 0, 1) := by decide +kernel
theorem dX1_inCount_1 : decode cX1_inCount 1 = .ok (.getfield 46, 3) := by decide +kernel
theorem dX1_inCount_4 : decode cX1_inCount 4 = .ok (.ireturn, 1) := by decide +kernel
theorem dX1_shownCount_0 : decode cX1_shownCount 0 = .ok (.aload_n 0, 1) := by decide +kernel
theorem dX1_shownCount_1 : decode cX1_shownCount 1 = .ok (.getfield 12, 3) := by decide +kernel
theorem dX1_shownCount_4 : decode cX1_shownCount 4 = .ok (.getfield 88, 3) := by decide +kernel
theorem dX1_shownCount_7 : decode cX1_shownCount 7 = .ok (.ifCond .ne 10, 3) := by decide +kernel
theorem dX1_shownCount_10 : decode cX1_shownCount 10 = .ok (.aload_n 0, 1) := by decide +kernel
theorem dX1_shownCount_11 : decode cX1_shownCount 11 = .ok (.getfield 46, 3) := by decide +kernel
theorem dX1_shownCount_14 : decode cX1_shownCount 14 = .ok (.goto 17, 3) := by decide +kernel
theorem dX1_shownCount_17 : decode cX1_shownCount 17 = .ok (.aload_n 0, 1) := by decide +kernel
theorem dX1_shownCount_18 : decode cX1_shownCount 18 = .ok (.getfield 12, 3) := by decide +kernel
theorem dX1_shownCount_21 : decode cX1_shownCount 21 = .ok (.getfield 88, 3) := by decide +kernel
theorem dX1_shownCount_24 : decode cX1_shownCount 24 = .ok (.aload_n 0, 1) := by decide +kernel
theorem dX1_shownCount_25 : decode cX1_shownCount 25 = .ok (.getfield 46, 3) := by decide +kernel
theorem dX1_shownCount_28 : decode cX1_shownCount 28 = .ok (.invokestatic 91, 3) := by decide +kernel
theorem dX1_shownCount_31 : decode cX1_shownCount 31 = .ok (.ireturn, 1) := by decide +kernel
theorem dX1_objectAt_0 : decode cX1_objectAt 0 = .ok (.iload_n 1, 1) := by decide +kernel
theorem dX1_objectAt_1 : decode cX1_objectAt 1 = .ok (.ifCond .lt 20, 3) := by decide +kernel
theorem dX1_objectAt_4 : decode cX1_objectAt 4 = .ok (.iload_n 1, 1) := by decide +kernel
theorem dX1_objectAt_5 : decode cX1_objectAt 5 = .ok (.aload_n 0, 1) := by decide +kernel
theorem dX1_objectAt_6 : decode cX1_objectAt 6 = .ok (.getfield 46, 3) := by decide +kernel
theorem dX1_objectAt_9 : decode cX1_objectAt 9 = .ok (.if_icmp .ge 12, 3) := by decide +kernel
theorem dX1_objectAt_12 : decode cX1_objectAt 12 = .ok (.aload_n 0, 1) := by decide +kernel
theorem dX1_objectAt_13 : decode cX1_objectAt 13 = .ok (.getfield 42, 3) := by decide +kernel
theorem dX1_objectAt_16 : decode cX1_objectAt 16 = .ok (.iload_n 1, 1) := by decide +kernel
theorem dX1_objectAt_17 : decode cX1_objectAt 17 = .ok (.iaload, 1) := by decide +kernel
theorem dX1_objectAt_18 : decode cX1_objectAt 18 = .ok (.goto 4, 3) := by decide +kernel
theorem dX1_objectAt_21 : decode cX1_objectAt 21 = .ok (.iconst (-1), 1) := by decide +kernel
theorem dX1_objectAt_22 : decode cX1_objectAt 22 = .ok (.ireturn, 1) := by decide +kernel
theorem dX1_keyOf_0 : decode cX1_keyOf 0 = .ok (.iload_n 1, 1) := by decide +kernel
theorem dX1_keyOf_1 : decode cX1_keyOf 1 = .ok (.ifCond .lt 18, 3) := by decide +kernel
theorem dX1_keyOf_4 : decode cX1_keyOf 4 = .ok (.iload_n 1, 1) := by decide +kernel
theorem dX1_keyOf_5 : decode cX1_keyOf 5 = .ok (.bipush 60, 2) := by decide +kernel
theorem dX1_keyOf_7 : decode cX1_keyOf 7 = .ok (.if_icmp .ge 12, 3) := by decide +kernel
theorem dX1_keyOf_10 : decode cX1_keyOf 10 = .ok (.aload_n 0, 1) := by decide +kernel
theorem dX1_keyOf_11 : decode cX1_keyOf 11 = .ok (.getfield 33, 3) := by decide +kernel
theorem dX1_keyOf_14 : decode cX1_keyOf 14 = .ok (.iload_n 1, 1) := by decide +kernel
theorem dX1_keyOf_15 : decode cX1_keyOf 15 = .ok (.laload, 1) := by decide +kernel
theorem dX1_keyOf_16 : decode cX1_keyOf 16 = .ok (.goto 4, 3) := by decide +kernel
theorem dX1_keyOf_19 : decode cX1_keyOf 19 = .ok (.lconst 0, 1) := by decide +kernel
theorem dX1_keyOf_20 : decode cX1_keyOf 20 = .ok (.lreturn, 1) := by decide +kernel
theorem dX1_rowsHangingOn_0 : decode cX1_rowsHangingOn 0 = .ok (.iconst 0, 1) := by decide +kernel
theorem dX1_rowsHangingOn_1 : decode cX1_rowsHangingOn 1 = .ok (.istore_n 2, 1) := by decide +kernel
theorem dX1_rowsHangingOn_2 : decode cX1_rowsHangingOn 2 = .ok (.iconst 0, 1) := by decide +kernel
theorem dX1_rowsHangingOn_3 : decode cX1_rowsHangingOn 3 = .ok (.istore_n 3, 1) := by decide +kernel
theorem dX1_rowsHangingOn_4 : decode cX1_rowsHangingOn 4 = .ok (.iload_n 3, 1) := by decide +kernel
theorem dX1_rowsHangingOn_5 : decode cX1_rowsHangingOn 5 = .ok (.aload_n 0, 1) := by decide +kernel
theorem dX1_rowsHangingOn_6 : decode cX1_rowsHangingOn 6 = .ok (.getfield 60, 3) := by decide +kernel
theorem dX1_rowsHangingOn_9 : decode cX1_rowsHangingOn 9 = .ok (.invokevirtual 68, 3) := by decide +kernel
theorem dX1_rowsHangingOn_12 : decode cX1_rowsHangingOn 12 = .ok (.if_icmp .ge 21, 3) := by decide +kernel
theorem dX1_rowsHangingOn_15 : decode cX1_rowsHangingOn 15 = .ok (.aload_n 0, 1) := by decide +kernel
theorem dX1_rowsHangingOn_16 : decode cX1_rowsHangingOn 16 = .ok (.iload_n 3, 1) := by decide +kernel
theorem dX1_rowsHangingOn_17 : decode cX1_rowsHangingOn 17 = .ok (.iload_n 1, 1) := by decide +kernel
theorem dX1_rowsHangingOn_18 : decode cX1_rowsHangingOn 18 = .ok (.invokevirtual 82, 3) := by decide +kernel
theorem dX1_rowsHangingOn_21 : decode cX1_rowsHangingOn 21 = .ok (.ifCond .eq 6, 3) := by decide +kernel
theorem dX1_rowsHangingOn_24 : decode cX1_rowsHangingOn 24 = .ok (.iinc 2 1, 3) := by decide +kernel
theorem dX1_rowsHangingOn_27 : decode cX1_rowsHangingOn 27 = .ok (.iinc 3 1, 3) := by decide +kernel
theorem dX1_rowsHangingOn_30 : decode cX1_rowsHangingOn 30 = .ok (.goto (-26), 3) := by decide +kernel
theorem dX1_rowsHangingOn_33 : decode cX1_rowsHangingOn 33 = .ok (.iload_n 2, 1) := by decide +kernel
theorem dX1_rowsHangingOn_34 : decode cX1_rowsHangingOn 34 = .ok (.ireturn, 1) := by decide +kernel
theorem dX1_differenceCount_0 : decode cX1_differenceCount 0 = .ok (.aload_n 0, 1) := by decide +kernel
theorem dX1_differenceCount_1 : decode cX1_differenceCount 1 = .ok (.getfield 54, 3) := by decide +kernel
theorem dX1_differenceCount_4 : decode cX1_differenceCount 4 = .ok (.invokestatic 97, 3) := by decide +kernel
theorem dX1_differenceCount_7 : decode cX1_differenceCount 7 = .ok (.aload_n 0, 1) := by decide +kernel
theorem dX1_differenceCount_8 : decode cX1_differenceCount 8 = .ok (.getfield 57, 3) := by decide +kernel
theorem dX1_differenceCount_11 : decode cX1_differenceCount 11 = .ok (.invokestatic 97, 3) := by decide +kernel
theorem dX1_differenceCount_14 : decode cX1_differenceCount 14 = .ok (.iadd, 1) := by decide +kernel
theorem dX1_differenceCount_15 : decode cX1_differenceCount 15 = .ok (.ireturn, 1) := by decide +kernel
theorem dX1_isArrival_0 : decode cX1_isArrival 0 = .ok (.iload_n 1, 1) := by decide +kernel
theorem dX1_isArrival_1 : decode cX1_isArrival 1 = .ok (.aload_n 0, 1) := by decide +kernel
theorem dX1_isArrival_2 : decode cX1_isArrival 2 = .ok (.getfield 54, 3) := by decide +kernel
theorem dX1_isArrival_5 : decode cX1_isArrival 5 = .ok (.invokestatic 97, 3) := by decide +kernel
theorem dX1_isArrival_8 : decode cX1_isArrival 8 = .ok (.if_icmp .lt 7, 3) := by decide +kernel
theorem dX1_isArrival_11 : decode cX1_isArrival 11 = .ok (.iconst 1, 1) := by decide +kernel
theorem dX1_isArrival_12 : decode cX1_isArrival 12 = .ok (.goto 4, 3) := by decide +kernel
theorem dX1_isArrival_15 : decode cX1_isArrival 15 = .ok (.iconst 0, 1) := by decide +kernel
theorem dX1_isArrival_16 : decode cX1_isArrival 16 = .ok (.ireturn, 1) := by decide +kernel
theorem dX1_differenceObject_0 : decode cX1_differenceObject 0 = .ok (.aload_n 0, 1) := by decide +kernel
theorem dX1_differenceObject_1 : decode cX1_differenceObject 1 = .ok (.iload_n 1, 1) := by decide +kernel
theorem dX1_differenceObject_2 : decode cX1_differenceObject 2 = .ok (.invokevirtual 103, 3) := by decide +kernel
theorem dX1_differenceObject_5 : decode cX1_differenceObject 5 = .ok (.ifCond .eq 22, 3) := by decide +kernel
theorem dX1_differenceObject_8 : decode cX1_differenceObject 8 = .ok (.aload_n 0, 1) := by decide +kernel
theorem dX1_differenceObject_9 : decode cX1_differenceObject 9 = .ok (.getfield 57, 3) := by decide +kernel
theorem dX1_differenceObject_12 : decode cX1_differenceObject 12 = .ok (.iload_n 1, 1) := by decide +kernel
theorem dX1_differenceObject_13 : decode cX1_differenceObject 13 = .ok (.aload_n 0, 1) := by decide +kernel
theorem dX1_differenceObject_14 : decode cX1_differenceObject 14 = .ok (.getfield 54, 3) := by decide +kernel
theorem dX1_differenceObject_17 : decode cX1_differenceObject 17 = .ok (.invokestatic 97, 3) := by decide +kernel
theorem dX1_differenceObject_20 : decode cX1_differenceObject 20 = .ok (.isub, 1) := by decide +kernel
theorem dX1_differenceObject_21 : decode cX1_differenceObject 21 = .ok (.invokestatic 107, 3) := by decide +kernel
theorem dX1_differenceObject_24 : decode cX1_differenceObject 24 = .ok (.goto 11, 3) := by decide +kernel
theorem dX1_differenceObject_27 : decode cX1_differenceObject 27 = .ok (.aload_n 0, 1) := by decide +kernel
theorem dX1_differenceObject_28 : decode cX1_differenceObject 28 = .ok (.getfield 54, 3) := by decide +kernel
theorem dX1_differenceObject_31 : decode cX1_differenceObject 31 = .ok (.iload_n 1, 1) := by decide +kernel
theorem dX1_differenceObject_32 : decode cX1_differenceObject 32 = .ok (.invokestatic 107, 3) := by decide +kernel
theorem dX1_differenceObject_35 : decode cX1_differenceObject 35 = .ok (.ireturn, 1) := by decide +kernel
theorem dX1_bitAt_0 : decode cX1_bitAt 0 = .ok (.iload_n 2, 1) := by decide +kernel
theorem dX1_bitAt_1 : decode cX1_bitAt 1 = .ok (.istore_n 3, 1) := by decide +kernel
theorem dX1_bitAt_2 : decode cX1_bitAt 2 = .ok (.iconst 0, 1) := by decide +kernel
theorem dX1_bitAt_3 : decode cX1_bitAt 3 = .ok (.istore 4, 2) := by decide +kernel
theorem dX1_bitAt_5 : decode cX1_bitAt 5 = .ok (.iload 4, 2) := by decide +kernel
theorem dX1_bitAt_7 : decode cX1_bitAt 7 = .ok (.bipush 60, 2) := by decide +kernel
theorem dX1_bitAt_9 : decode cX1_bitAt 9 = .ok (.if_icmp .ge 30, 3) := by decide +kernel
theorem dX1_bitAt_12 : decode cX1_bitAt 12 = .ok (.lload_n 0, 1) := by decide +kernel
theorem dX1_bitAt_13 : decode cX1_bitAt 13 = .ok (.iload 4, 2) := by decide +kernel
theorem dX1_bitAt_15 : decode cX1_bitAt 15 = .ok (.lushr, 1) := by decide +kernel
theorem dX1_bitAt_16 : decode cX1_bitAt 16 = .ok (.lconst 1, 1) := by decide +kernel
theorem dX1_bitAt_17 : decode cX1_bitAt 17 = .ok (.land, 1) := by decide +kernel
theorem dX1_bitAt_18 : decode cX1_bitAt 18 = .ok (.lconst 0, 1) := by decide +kernel
theorem dX1_bitAt_19 : decode cX1_bitAt 19 = .ok (.lcmp, 1) := by decide +kernel
theorem dX1_bitAt_20 : decode cX1_bitAt 20 = .ok (.ifCond .eq 13, 3) := by decide +kernel
theorem dX1_bitAt_23 : decode cX1_bitAt 23 = .ok (.iload_n 3, 1) := by decide +kernel
theorem dX1_bitAt_24 : decode cX1_bitAt 24 = .ok (.ifCond .ne 6, 3) := by decide +kernel
theorem dX1_bitAt_27 : decode cX1_bitAt 27 = .ok (.iload 4, 2) := by decide +kernel
theorem dX1_bitAt_29 : decode cX1_bitAt 29 = .ok (.ireturn, 1) := by decide +kernel
theorem dX1_bitAt_30 : decode cX1_bitAt 30 = .ok (.iinc 3 (-1), 3) := by decide +kernel
theorem dX1_bitAt_33 : decode cX1_bitAt 33 = .ok (.iinc 4 1, 3) := by decide +kernel
theorem dX1_bitAt_36 : decode cX1_bitAt 36 = .ok (.goto (-31), 3) := by decide +kernel
theorem dX1_bitAt_39 : decode cX1_bitAt 39 = .ok (.iconst (-1), 1) := by decide +kernel
theorem dX1_bitAt_40 : decode cX1_bitAt 40 = .ok (.ireturn, 1) := by decide +kernel
theorem dX1_hangsOn_0 : decode cX1_hangsOn 0 = .ok (.aload_n 0, 1) := by decide +kernel
theorem dX1_hangsOn_1 : decode cX1_hangsOn 1 = .ok (.getfield 25, 3) := by decide +kernel
theorem dX1_hangsOn_4 : decode cX1_hangsOn 4 = .ok (.iload_n 1, 1) := by decide +kernel
theorem dX1_hangsOn_5 : decode cX1_hangsOn 5 = .ok (.laload, 1) := by decide +kernel
theorem dX1_hangsOn_6 : decode cX1_hangsOn 6 = .ok (.iload_n 2, 1) := by decide +kernel
theorem dX1_hangsOn_7 : decode cX1_hangsOn 7 = .ok (.lushr, 1) := by decide +kernel
theorem dX1_hangsOn_8 : decode cX1_hangsOn 8 = .ok (.lconst 1, 1) := by decide +kernel
theorem dX1_hangsOn_9 : decode cX1_hangsOn 9 = .ok (.land, 1) := by decide +kernel
theorem dX1_hangsOn_10 : decode cX1_hangsOn 10 = .ok (.lconst 0, 1) := by decide +kernel
theorem dX1_hangsOn_11 : decode cX1_hangsOn 11 = .ok (.lcmp, 1) := by decide +kernel
theorem dX1_hangsOn_12 : decode cX1_hangsOn 12 = .ok (.ifCond .eq 7, 3) := by decide +kernel
theorem dX1_hangsOn_15 : decode cX1_hangsOn 15 = .ok (.iconst 1, 1) := by decide +kernel
theorem dX1_hangsOn_16 : decode cX1_hangsOn 16 = .ok (.goto 4, 3) := by decide +kernel
theorem dX1_hangsOn_19 : decode cX1_hangsOn 19 = .ok (.iconst 0, 1) := by decide +kernel
theorem dX1_hangsOn_20 : decode cX1_hangsOn 20 = .ok (.ireturn, 1) := by decide +kernel
theorem dX1_showFirst_0 : decode cX1_showFirst 0 = .ok (.lconst 0, 1) := by decide +kernel
theorem dX1_showFirst_1 : decode cX1_showFirst 1 = .ok (.lstore_n 1, 1) := by decide +kernel
theorem dX1_showFirst_2 : decode cX1_showFirst 2 = .ok (.iconst 0, 1) := by decide +kernel
theorem dX1_showFirst_3 : decode cX1_showFirst 3 = .ok (.istore_n 3, 1) := by decide +kernel
theorem dX1_showFirst_4 : decode cX1_showFirst 4 = .ok (.iload_n 3, 1) := by decide +kernel
theorem dX1_showFirst_5 : decode cX1_showFirst 5 = .ok (.aload_n 0, 1) := by decide +kernel
theorem dX1_showFirst_6 : decode cX1_showFirst 6 = .ok (.invokevirtual 111, 3) := by decide +kernel
theorem dX1_showFirst_9 : decode cX1_showFirst 9 = .ok (.if_icmp .ge 20, 3) := by decide +kernel
theorem dX1_showFirst_12 : decode cX1_showFirst 12 = .ok (.lload_n 1, 1) := by decide +kernel
theorem dX1_showFirst_13 : decode cX1_showFirst 13 = .ok (.lconst 1, 1) := by decide +kernel
theorem dX1_showFirst_14 : decode cX1_showFirst 14 = .ok (.aload_n 0, 1) := by decide +kernel
theorem dX1_showFirst_15 : decode cX1_showFirst 15 = .ok (.getfield 42, 3) := by decide +kernel
theorem dX1_showFirst_18 : decode cX1_showFirst 18 = .ok (.iload_n 3, 1) := by decide +kernel
theorem dX1_showFirst_19 : decode cX1_showFirst 19 = .ok (.iaload, 1) := by decide +kernel
theorem dX1_showFirst_20 : decode cX1_showFirst 20 = .ok (.lshl, 1) := by decide +kernel
theorem dX1_showFirst_21 : decode cX1_showFirst 21 = .ok (.lor, 1) := by decide +kernel
theorem dX1_showFirst_22 : decode cX1_showFirst 22 = .ok (.lstore_n 1, 1) := by decide +kernel
theorem dX1_showFirst_23 : decode cX1_showFirst 23 = .ok (.iinc 3 1, 3) := by decide +kernel
theorem dX1_showFirst_26 : decode cX1_showFirst 26 = .ok (.goto (-22), 3) := by decide +kernel
theorem dX1_showFirst_29 : decode cX1_showFirst 29 = .ok (.lload_n 1, 1) := by decide +kernel
theorem dX1_showFirst_30 : decode cX1_showFirst 30 = .ok (.lreturn, 1) := by decide +kernel
theorem dX1_renew_0 : decode cX1_renew 0 = .ok (.aload_n 0, 1) := by decide +kernel
theorem dX1_renew_1 : decode cX1_renew 1 = .ok (.getfield 29, 3) := by decide +kernel
theorem dX1_renew_4 : decode cX1_renew 4 = .ok (.iload_n 1, 1) := by decide +kernel
theorem dX1_renew_5 : decode cX1_renew 5 = .ok (.baload, 1) := by decide +kernel
theorem dX1_renew_6 : decode cX1_renew 6 = .ok (.ifCond .eq 8, 3) := by decide +kernel
theorem dX1_renew_9 : decode cX1_renew 9 = .ok (.aload_n 0, 1) := by decide +kernel
theorem dX1_renew_10 : decode cX1_renew 10 = .ok (.iload_n 1, 1) := by decide +kernel
theorem dX1_renew_11 : decode cX1_renew 11 = .ok (.invokevirtual 114, 3) := by decide +kernel
theorem dX1_renew_14 : decode cX1_renew 14 = .ok (.aload_n 0, 1) := by decide +kernel
theorem dX1_renew_15 : decode cX1_renew 15 = .ok (.getfield 60, 3) := by decide +kernel
theorem dX1_renew_18 : decode cX1_renew 18 = .ok (.iload_n 1, 1) := by decide +kernel
theorem dX1_renew_19 : decode cX1_renew 19 = .ok (.aload_n 0, 1) := by decide +kernel
theorem dX1_renew_20 : decode cX1_renew 20 = .ok (.getfield 12, 3) := by decide +kernel
theorem dX1_renew_23 : decode cX1_renew 23 = .ok (.getfield 117, 3) := by decide +kernel
theorem dX1_renew_26 : decode cX1_renew 26 = .ok (.invokevirtual 120, 3) := by decide +kernel
theorem dX1_renew_29 : decode cX1_renew 29 = .ok (.ifCond .ne 11, 3) := by decide +kernel
theorem dX1_renew_32 : decode cX1_renew 32 = .ok (.aload_n 0, 1) := by decide +kernel
theorem dX1_renew_33 : decode cX1_renew 33 = .ok (.getfield 25, 3) := by decide +kernel
theorem dX1_renew_36 : decode cX1_renew 36 = .ok (.iload_n 1, 1) := by decide +kernel
theorem dX1_renew_37 : decode cX1_renew 37 = .ok (.lconst 0, 1) := by decide +kernel
theorem dX1_renew_38 : decode cX1_renew 38 = .ok (.lastore, 1) := by decide +kernel
theorem dX1_renew_39 : decode cX1_renew 39 = .ok (.return_, 1) := by decide +kernel
theorem dX1_renew_40 : decode cX1_renew 40 = .ok (.aload_n 0, 1) := by decide +kernel
theorem dX1_renew_41 : decode cX1_renew 41 = .ok (.getfield 64, 3) := by decide +kernel
theorem dX1_renew_44 : decode cX1_renew 44 = .ok (.aload_n 0, 1) := by decide +kernel
theorem dX1_renew_45 : decode cX1_renew 45 = .ok (.getfield 12, 3) := by decide +kernel
theorem dX1_renew_48 : decode cX1_renew 48 = .ok (.iload_n 1, 1) := by decide +kernel
theorem dX1_renew_49 : decode cX1_renew 49 = .ok (.invokevirtual 123, 3) := by decide +kernel
theorem dX1_renew_52 : decode cX1_renew 52 = .ok (.aload_n 0, 1) := by decide +kernel
theorem dX1_renew_53 : decode cX1_renew 53 = .ok (.getfield 25, 3) := by decide +kernel
theorem dX1_renew_56 : decode cX1_renew 56 = .ok (.iload_n 1, 1) := by decide +kernel
theorem dX1_renew_57 : decode cX1_renew 57 = .ok (.aload_n 0, 1) := by decide +kernel
theorem dX1_renew_58 : decode cX1_renew 58 = .ok (.getfield 64, 3) := by decide +kernel
theorem dX1_renew_61 : decode cX1_renew 61 = .ok (.invokevirtual 129, 3) := by decide +kernel
theorem dX1_renew_64 : decode cX1_renew 64 = .ok (.lastore, 1) := by decide +kernel
theorem dX1_renew_65 : decode cX1_renew 65 = .ok (.aload_n 0, 1) := by decide +kernel
theorem dX1_renew_66 : decode cX1_renew 66 = .ok (.getfield 64, 3) := by decide +kernel
theorem dX1_renew_69 : decode cX1_renew 69 = .ok (.invokevirtual 132, 3) := by decide +kernel
theorem dX1_renew_72 : decode cX1_renew 72 = .ok (.ifCond .ne 91, 3) := by decide +kernel
theorem dX1_renew_75 : decode cX1_renew 75 = .ok (.aload_n 0, 1) := by decide +kernel
theorem dX1_renew_76 : decode cX1_renew 76 = .ok (.getfield 64, 3) := by decide +kernel
theorem dX1_renew_79 : decode cX1_renew 79 = .ok (.aload_n 0, 1) := by decide +kernel
theorem dX1_renew_80 : decode cX1_renew 80 = .ok (.getfield 12, 3) := by decide +kernel
theorem dX1_renew_83 : decode cX1_renew 83 = .ok (.getfield 136, 3) := by decide +kernel
theorem dX1_renew_86 : decode cX1_renew 86 = .ok (.lconst 1, 1) := by decide +kernel
theorem dX1_renew_87 : decode cX1_renew 87 = .ok (.invokevirtual 139, 3) := by decide +kernel
theorem dX1_renew_90 : decode cX1_renew 90 = .ok (.lconst 0, 1) := by decide +kernel
theorem dX1_renew_91 : decode cX1_renew 91 = .ok (.lcmp, 1) := by decide +kernel
theorem dX1_renew_92 : decode cX1_renew 92 = .ok (.ifCond .eq 71, 3) := by decide +kernel
theorem dX1_renew_95 : decode cX1_renew 95 = .ok (.aload_n 0, 1) := by decide +kernel
theorem dX1_renew_96 : decode cX1_renew 96 = .ok (.getfield 33, 3) := by decide +kernel
theorem dX1_renew_99 : decode cX1_renew 99 = .ok (.iload_n 1, 1) := by decide +kernel
theorem dX1_renew_100 : decode cX1_renew 100 = .ok (.aload_n 0, 1) := by decide +kernel
theorem dX1_renew_101 : decode cX1_renew 101 = .ok (.getfield 64, 3) := by decide +kernel
theorem dX1_renew_104 : decode cX1_renew 104 = .ok (.aload_n 0, 1) := by decide +kernel
theorem dX1_renew_105 : decode cX1_renew 105 = .ok (.getfield 12, 3) := by decide +kernel
theorem dX1_renew_108 : decode cX1_renew 108 = .ok (.getfield 143, 3) := by decide +kernel
theorem dX1_renew_111 : decode cX1_renew 111 = .ok (.lconst 0, 1) := by decide +kernel
theorem dX1_renew_112 : decode cX1_renew 112 = .ok (.invokevirtual 139, 3) := by decide +kernel
theorem dX1_renew_115 : decode cX1_renew 115 = .ok (.lastore, 1) := by decide +kernel
theorem dX1_renew_116 : decode cX1_renew 116 = .ok (.aload_n 0, 1) := by decide +kernel
theorem dX1_renew_117 : decode cX1_renew 117 = .ok (.getfield 36, 3) := by decide +kernel
theorem dX1_renew_120 : decode cX1_renew 120 = .ok (.iload_n 1, 1) := by decide +kernel
theorem dX1_renew_121 : decode cX1_renew 121 = .ok (.aload_n 0, 1) := by decide +kernel
theorem dX1_renew_122 : decode cX1_renew 122 = .ok (.getfield 64, 3) := by decide +kernel
theorem dX1_renew_125 : decode cX1_renew 125 = .ok (.aload_n 0, 1) := by decide +kernel
theorem dX1_renew_126 : decode cX1_renew 126 = .ok (.getfield 12, 3) := by decide +kernel
theorem dX1_renew_129 : decode cX1_renew 129 = .ok (.getfield 146, 3) := by decide +kernel
theorem dX1_renew_132 : decode cX1_renew 132 = .ok (.lconst 0, 1) := by decide +kernel
theorem dX1_renew_133 : decode cX1_renew 133 = .ok (.invokevirtual 139, 3) := by decide +kernel
theorem dX1_renew_136 : decode cX1_renew 136 = .ok (.lastore, 1) := by decide +kernel
theorem dX1_renew_137 : decode cX1_renew 137 = .ok (.aload_n 0, 1) := by decide +kernel
theorem dX1_renew_138 : decode cX1_renew 138 = .ok (.getfield 39, 3) := by decide +kernel
theorem dX1_renew_141 : decode cX1_renew 141 = .ok (.iload_n 1, 1) := by decide +kernel
theorem dX1_renew_142 : decode cX1_renew 142 = .ok (.aload_n 0, 1) := by decide +kernel
theorem dX1_renew_143 : decode cX1_renew 143 = .ok (.getfield 64, 3) := by decide +kernel
theorem dX1_renew_146 : decode cX1_renew 146 = .ok (.aload_n 0, 1) := by decide +kernel
theorem dX1_renew_147 : decode cX1_renew 147 = .ok (.getfield 12, 3) := by decide +kernel
theorem dX1_renew_150 : decode cX1_renew 150 = .ok (.getfield 149, 3) := by decide +kernel
theorem dX1_renew_153 : decode cX1_renew 153 = .ok (.lconst 1, 1) := by decide +kernel
theorem dX1_renew_154 : decode cX1_renew 154 = .ok (.invokevirtual 139, 3) := by decide +kernel
theorem dX1_renew_157 : decode cX1_renew 157 = .ok (.lastore, 1) := by decide +kernel
theorem dX1_renew_158 : decode cX1_renew 158 = .ok (.aload_n 0, 1) := by decide +kernel
theorem dX1_renew_159 : decode cX1_renew 159 = .ok (.iload_n 1, 1) := by decide +kernel
theorem dX1_renew_160 : decode cX1_renew 160 = .ok (.invokevirtual 152, 3) := by decide +kernel
theorem dX1_renew_163 : decode cX1_renew 163 = .ok (.return_, 1) := by decide +kernel
theorem dX1_bringIn_0 : decode cX1_bringIn 0 = .ok (.aload_n 0, 1) := by decide +kernel
theorem dX1_bringIn_1 : decode cX1_bringIn 1 = .ok (.getfield 46, 3) := by decide +kernel
theorem dX1_bringIn_4 : decode cX1_bringIn 4 = .ok (.bipush 60, 2) := by decide +kernel
theorem dX1_bringIn_6 : decode cX1_bringIn 6 = .ok (.if_icmp .lt 4, 3) := by decide +kernel
theorem dX1_bringIn_9 : decode cX1_bringIn 9 = .ok (.return_, 1) := by decide +kernel
theorem dX1_bringIn_10 : decode cX1_bringIn 10 = .ok (.aload_n 0, 1) := by decide +kernel
theorem dX1_bringIn_11 : decode cX1_bringIn 11 = .ok (.getfield 46, 3) := by decide +kernel
theorem dX1_bringIn_14 : decode cX1_bringIn 14 = .ok (.istore_n 2, 1) := by decide +kernel
theorem dX1_bringIn_15 : decode cX1_bringIn 15 = .ok (.iload_n 2, 1) := by decide +kernel
theorem dX1_bringIn_16 : decode cX1_bringIn 16 = .ok (.ifCond .le 39, 3) := by decide +kernel
theorem dX1_bringIn_19 : decode cX1_bringIn 19 = .ok (.aload_n 0, 1) := by decide +kernel
theorem dX1_bringIn_20 : decode cX1_bringIn 20 = .ok (.iload_n 1, 1) := by decide +kernel
theorem dX1_bringIn_21 : decode cX1_bringIn 21 = .ok (.aload_n 0, 1) := by decide +kernel
theorem dX1_bringIn_22 : decode cX1_bringIn 22 = .ok (.getfield 42, 3) := by decide +kernel
theorem dX1_bringIn_25 : decode cX1_bringIn 25 = .ok (.iload_n 2, 1) := by decide +kernel
theorem dX1_bringIn_26 : decode cX1_bringIn 26 = .ok (.iconst 1, 1) := by decide +kernel
theorem dX1_bringIn_27 : decode cX1_bringIn 27 = .ok (.isub, 1) := by decide +kernel
theorem dX1_bringIn_28 : decode cX1_bringIn 28 = .ok (.iaload, 1) := by decide +kernel
theorem dX1_bringIn_29 : decode cX1_bringIn 29 = .ok (.invokevirtual 155, 3) := by decide +kernel
theorem dX1_bringIn_32 : decode cX1_bringIn 32 = .ok (.ifCond .eq 23, 3) := by decide +kernel
theorem dX1_bringIn_35 : decode cX1_bringIn 35 = .ok (.aload_n 0, 1) := by decide +kernel
theorem dX1_bringIn_36 : decode cX1_bringIn 36 = .ok (.getfield 42, 3) := by decide +kernel
theorem dX1_bringIn_39 : decode cX1_bringIn 39 = .ok (.iload_n 2, 1) := by decide +kernel
theorem dX1_bringIn_40 : decode cX1_bringIn 40 = .ok (.aload_n 0, 1) := by decide +kernel
theorem dX1_bringIn_41 : decode cX1_bringIn 41 = .ok (.getfield 42, 3) := by decide +kernel
theorem dX1_bringIn_44 : decode cX1_bringIn 44 = .ok (.iload_n 2, 1) := by decide +kernel
theorem dX1_bringIn_45 : decode cX1_bringIn 45 = .ok (.iconst 1, 1) := by decide +kernel
theorem dX1_bringIn_46 : decode cX1_bringIn 46 = .ok (.isub, 1) := by decide +kernel
theorem dX1_bringIn_47 : decode cX1_bringIn 47 = .ok (.iaload, 1) := by decide +kernel
theorem dX1_bringIn_48 : decode cX1_bringIn 48 = .ok (.iastore, 1) := by decide +kernel
theorem dX1_bringIn_49 : decode cX1_bringIn 49 = .ok (.iinc 2 (-1), 3) := by decide +kernel
theorem dX1_bringIn_52 : decode cX1_bringIn 52 = .ok (.goto (-37), 3) := by decide +kernel
theorem dX1_bringIn_55 : decode cX1_bringIn 55 = .ok (.aload_n 0, 1) := by decide +kernel
theorem dX1_bringIn_56 : decode cX1_bringIn 56 = .ok (.getfield 42, 3) := by decide +kernel
theorem dX1_bringIn_59 : decode cX1_bringIn 59 = .ok (.iload_n 2, 1) := by decide +kernel
theorem dX1_bringIn_60 : decode cX1_bringIn 60 = .ok (.iload_n 1, 1) := by decide +kernel
theorem dX1_bringIn_61 : decode cX1_bringIn 61 = .ok (.iastore, 1) := by decide +kernel
theorem dX1_bringIn_62 : decode cX1_bringIn 62 = .ok (.aload_n 0, 1) := by decide +kernel
theorem dX1_bringIn_63 : decode cX1_bringIn 63 = .ok (.dup, 1) := by decide +kernel
theorem dX1_bringIn_64 : decode cX1_bringIn 64 = .ok (.getfield 46, 3) := by decide +kernel
theorem dX1_bringIn_67 : decode cX1_bringIn 67 = .ok (.iconst 1, 1) := by decide +kernel
theorem dX1_bringIn_68 : decode cX1_bringIn 68 = .ok (.iadd, 1) := by decide +kernel
theorem dX1_bringIn_69 : decode cX1_bringIn 69 = .ok (.putfield 46, 3) := by decide +kernel
theorem dX1_bringIn_72 : decode cX1_bringIn 72 = .ok (.aload_n 0, 1) := by decide +kernel
theorem dX1_bringIn_73 : decode cX1_bringIn 73 = .ok (.getfield 29, 3) := by decide +kernel
theorem dX1_bringIn_76 : decode cX1_bringIn 76 = .ok (.iload_n 1, 1) := by decide +kernel
theorem dX1_bringIn_77 : decode cX1_bringIn 77 = .ok (.iconst 1, 1) := by decide +kernel
theorem dX1_bringIn_78 : decode cX1_bringIn 78 = .ok (.bastore, 1) := by decide +kernel
theorem dX1_bringIn_79 : decode cX1_bringIn 79 = .ok (.aload_n 0, 1) := by decide +kernel
theorem dX1_bringIn_80 : decode cX1_bringIn 80 = .ok (.getfield 21, 3) := by decide +kernel
theorem dX1_bringIn_83 : decode cX1_bringIn 83 = .ok (.aload_n 0, 1) := by decide +kernel
theorem dX1_bringIn_84 : decode cX1_bringIn 84 = .ok (.getfield 36, 3) := by decide +kernel
theorem dX1_bringIn_87 : decode cX1_bringIn 87 = .ok (.iload_n 1, 1) := by decide +kernel
theorem dX1_bringIn_88 : decode cX1_bringIn 88 = .ok (.laload, 1) := by decide +kernel
theorem dX1_bringIn_89 : decode cX1_bringIn 89 = .ok (.aload_n 0, 1) := by decide +kernel
theorem dX1_bringIn_90 : decode cX1_bringIn 90 = .ok (.getfield 39, 3) := by decide +kernel
theorem dX1_bringIn_93 : decode cX1_bringIn 93 = .ok (.iload_n 1, 1) := by decide +kernel
theorem dX1_bringIn_94 : decode cX1_bringIn 94 = .ok (.laload, 1) := by decide +kernel
theorem dX1_bringIn_95 : decode cX1_bringIn 95 = .ok (.invokevirtual 158, 3) := by decide +kernel
theorem dX1_bringIn_98 : decode cX1_bringIn 98 = .ok (.return_, 1) := by decide +kernel
theorem dX1_takeOut_0 : decode cX1_takeOut 0 = .ok (.iconst 0, 1) := by decide +kernel
theorem dX1_takeOut_1 : decode cX1_takeOut 1 = .ok (.istore_n 2, 1) := by decide +kernel
theorem dX1_takeOut_2 : decode cX1_takeOut 2 = .ok (.iconst 0, 1) := by decide +kernel
theorem dX1_takeOut_3 : decode cX1_takeOut 3 = .ok (.istore_n 3, 1) := by decide +kernel
theorem dX1_takeOut_4 : decode cX1_takeOut 4 = .ok (.iload_n 3, 1) := by decide +kernel
theorem dX1_takeOut_5 : decode cX1_takeOut 5 = .ok (.aload_n 0, 1) := by decide +kernel
theorem dX1_takeOut_6 : decode cX1_takeOut 6 = .ok (.getfield 46, 3) := by decide +kernel
theorem dX1_takeOut_9 : decode cX1_takeOut 9 = .ok (.if_icmp .ge 34, 3) := by decide +kernel
theorem dX1_takeOut_12 : decode cX1_takeOut 12 = .ok (.aload_n 0, 1) := by decide +kernel
theorem dX1_takeOut_13 : decode cX1_takeOut 13 = .ok (.getfield 42, 3) := by decide +kernel
theorem dX1_takeOut_16 : decode cX1_takeOut 16 = .ok (.iload_n 3, 1) := by decide +kernel
theorem dX1_takeOut_17 : decode cX1_takeOut 17 = .ok (.iaload, 1) := by decide +kernel
theorem dX1_takeOut_18 : decode cX1_takeOut 18 = .ok (.iload_n 1, 1) := by decide +kernel
theorem dX1_takeOut_19 : decode cX1_takeOut 19 = .ok (.if_icmp .eq 18, 3) := by decide +kernel
theorem dX1_takeOut_22 : decode cX1_takeOut 22 = .ok (.aload_n 0, 1) := by decide +kernel
theorem dX1_takeOut_23 : decode cX1_takeOut 23 = .ok (.getfield 42, 3) := by decide +kernel
theorem dX1_takeOut_26 : decode cX1_takeOut 26 = .ok (.iload_n 2, 1) := by decide +kernel
theorem dX1_takeOut_27 : decode cX1_takeOut 27 = .ok (.aload_n 0, 1) := by decide +kernel
theorem dX1_takeOut_28 : decode cX1_takeOut 28 = .ok (.getfield 42, 3) := by decide +kernel
theorem dX1_takeOut_31 : decode cX1_takeOut 31 = .ok (.iload_n 3, 1) := by decide +kernel
theorem dX1_takeOut_32 : decode cX1_takeOut 32 = .ok (.iaload, 1) := by decide +kernel
theorem dX1_takeOut_33 : decode cX1_takeOut 33 = .ok (.iastore, 1) := by decide +kernel
theorem dX1_takeOut_34 : decode cX1_takeOut 34 = .ok (.iinc 2 1, 3) := by decide +kernel
theorem dX1_takeOut_37 : decode cX1_takeOut 37 = .ok (.iinc 3 1, 3) := by decide +kernel
theorem dX1_takeOut_40 : decode cX1_takeOut 40 = .ok (.goto (-36), 3) := by decide +kernel
theorem dX1_takeOut_43 : decode cX1_takeOut 43 = .ok (.aload_n 0, 1) := by decide +kernel
theorem dX1_takeOut_44 : decode cX1_takeOut 44 = .ok (.iload_n 2, 1) := by decide +kernel
theorem dX1_takeOut_45 : decode cX1_takeOut 45 = .ok (.putfield 46, 3) := by decide +kernel
theorem dX1_takeOut_48 : decode cX1_takeOut 48 = .ok (.aload_n 0, 1) := by decide +kernel
theorem dX1_takeOut_49 : decode cX1_takeOut 49 = .ok (.getfield 29, 3) := by decide +kernel
theorem dX1_takeOut_52 : decode cX1_takeOut 52 = .ok (.iload_n 1, 1) := by decide +kernel
theorem dX1_takeOut_53 : decode cX1_takeOut 53 = .ok (.iconst 0, 1) := by decide +kernel
theorem dX1_takeOut_54 : decode cX1_takeOut 54 = .ok (.bastore, 1) := by decide +kernel
theorem dX1_takeOut_55 : decode cX1_takeOut 55 = .ok (.aload_n 0, 1) := by decide +kernel
theorem dX1_takeOut_56 : decode cX1_takeOut 56 = .ok (.getfield 21, 3) := by decide +kernel
theorem dX1_takeOut_59 : decode cX1_takeOut 59 = .ok (.aload_n 0, 1) := by decide +kernel
theorem dX1_takeOut_60 : decode cX1_takeOut 60 = .ok (.getfield 36, 3) := by decide +kernel
theorem dX1_takeOut_63 : decode cX1_takeOut 63 = .ok (.iload_n 1, 1) := by decide +kernel
theorem dX1_takeOut_64 : decode cX1_takeOut 64 = .ok (.laload, 1) := by decide +kernel
theorem dX1_takeOut_65 : decode cX1_takeOut 65 = .ok (.aload_n 0, 1) := by decide +kernel
theorem dX1_takeOut_66 : decode cX1_takeOut 66 = .ok (.getfield 39, 3) := by decide +kernel
theorem dX1_takeOut_69 : decode cX1_takeOut 69 = .ok (.iload_n 1, 1) := by decide +kernel
theorem dX1_takeOut_70 : decode cX1_takeOut 70 = .ok (.laload, 1) := by decide +kernel
theorem dX1_takeOut_71 : decode cX1_takeOut 71 = .ok (.invokevirtual 162, 3) := by decide +kernel
theorem dX1_takeOut_74 : decode cX1_takeOut 74 = .ok (.return_, 1) := by decide +kernel
theorem dX1_isBefore_0 : decode cX1_isBefore 0 = .ok (.aload_n 0, 1) := by decide +kernel
theorem dX1_isBefore_1 : decode cX1_isBefore 1 = .ok (.getfield 33, 3) := by decide +kernel
theorem dX1_isBefore_4 : decode cX1_isBefore 4 = .ok (.iload_n 1, 1) := by decide +kernel
theorem dX1_isBefore_5 : decode cX1_isBefore 5 = .ok (.laload, 1) := by decide +kernel
theorem dX1_isBefore_6 : decode cX1_isBefore 6 = .ok (.aload_n 0, 1) := by decide +kernel
theorem dX1_isBefore_7 : decode cX1_isBefore 7 = .ok (.getfield 33, 3) := by decide +kernel
theorem dX1_isBefore_10 : decode cX1_isBefore 10 = .ok (.iload_n 2, 1) := by decide +kernel
theorem dX1_isBefore_11 : decode cX1_isBefore 11 = .ok (.laload, 1) := by decide +kernel
theorem dX1_isBefore_12 : decode cX1_isBefore 12 = .ok (.lcmp, 1) := by decide +kernel
theorem dX1_isBefore_13 : decode cX1_isBefore 13 = .ok (.ifCond .eq 27, 3) := by decide +kernel
theorem dX1_isBefore_16 : decode cX1_isBefore 16 = .ok (.aload_n 0, 1) := by decide +kernel
theorem dX1_isBefore_17 : decode cX1_isBefore 17 = .ok (.getfield 33, 3) := by decide +kernel
theorem dX1_isBefore_20 : decode cX1_isBefore 20 = .ok (.iload_n 1, 1) := by decide +kernel
theorem dX1_isBefore_21 : decode cX1_isBefore 21 = .ok (.laload, 1) := by decide +kernel
theorem dX1_isBefore_22 : decode cX1_isBefore 22 = .ok (.aload_n 0, 1) := by decide +kernel
theorem dX1_isBefore_23 : decode cX1_isBefore 23 = .ok (.getfield 33, 3) := by decide +kernel
theorem dX1_isBefore_26 : decode cX1_isBefore 26 = .ok (.iload_n 2, 1) := by decide +kernel
theorem dX1_isBefore_27 : decode cX1_isBefore 27 = .ok (.laload, 1) := by decide +kernel
theorem dX1_isBefore_28 : decode cX1_isBefore 28 = .ok (.lcmp, 1) := by decide +kernel
theorem dX1_isBefore_29 : decode cX1_isBefore 29 = .ok (.ifCond .ge 7, 3) := by decide +kernel
theorem dX1_isBefore_32 : decode cX1_isBefore 32 = .ok (.iconst 1, 1) := by decide +kernel
theorem dX1_isBefore_33 : decode cX1_isBefore 33 = .ok (.goto 17, 3) := by decide +kernel
theorem dX1_isBefore_36 : decode cX1_isBefore 36 = .ok (.iconst 0, 1) := by decide +kernel
theorem dX1_isBefore_37 : decode cX1_isBefore 37 = .ok (.goto 13, 3) := by decide +kernel
theorem dX1_isBefore_40 : decode cX1_isBefore 40 = .ok (.iload_n 1, 1) := by decide +kernel
theorem dX1_isBefore_41 : decode cX1_isBefore 41 = .ok (.iload_n 2, 1) := by decide +kernel
theorem dX1_isBefore_42 : decode cX1_isBefore 42 = .ok (.if_icmp .ge 7, 3) := by decide +kernel
theorem dX1_isBefore_45 : decode cX1_isBefore 45 = .ok (.iconst 1, 1) := by decide +kernel
theorem dX1_isBefore_46 : decode cX1_isBefore 46 = .ok (.goto 4, 3) := by decide +kernel
theorem dX1_isBefore_49 : decode cX1_isBefore 49 = .ok (.iconst 0, 1) := by decide +kernel
theorem dX1_isBefore_50 : decode cX1_isBefore 50 = .ok (.ireturn, 1) := by decide +kernel
theorem dX2_init_0 : decode cX2_init 0 = .ok (.aload_n 0, 1) := by decide +kernel
theorem dX2_init_1 : decode cX2_init 1 = .ok (.invokespecial 3, 3) := by decide +kernel
theorem dX2_init_4 : decode cX2_init 4 = .ok (.aload_n 0, 1) := by decide +kernel
theorem dX2_init_5 : decode cX2_init 5 = .ok (.bipush 80, 2) := by decide +kernel
theorem dX2_init_7 : decode cX2_init 7 = .ok (.newarray .char, 2) := by decide +kernel
theorem dX2_init_9 : decode cX2_init 9 = .ok (.putfield 9, 3) := by decide +kernel
theorem dX2_init_12 : decode cX2_init 12 = .ok (.aload_n 0, 1) := by decide +kernel
theorem dX2_init_13 : decode cX2_init 13 = .ok (.bipush 80, 2) := by decide +kernel
theorem dX2_init_15 : decode cX2_init 15 = .ok (.newarray .int, 2) := by decide +kernel
theorem dX2_init_17 : decode cX2_init 17 = .ok (.putfield 15, 3) := by decide +kernel
theorem dX2_init_20 : decode cX2_init 20 = .ok (.aload_n 0, 1) := by decide +kernel
theorem dX2_init_21 : decode cX2_init 21 = .ok (.bipush 80, 2) := by decide +kernel
theorem dX2_init_23 : decode cX2_init 23 = .ok (.newarray .int, 2) := by decide +kernel
theorem dX2_init_25 : decode cX2_init 25 = .ok (.putfield 19, 3) := by decide +kernel
theorem dX2_init_28 : decode cX2_init 28 = .ok (.aload_n 0, 1) := by decide +kernel
theorem dX2_init_29 : decode cX2_init 29 = .ok (.iconst 0, 1) := by decide +kernel
theorem dX2_init_30 : decode cX2_init 30 = .ok (.putfield 22, 3) := by decide +kernel
theorem dX2_init_33 : decode cX2_init 33 = .ok (.aload_n 0, 1) := by decide +kernel
theorem dX2_init_34 : decode cX2_init 34 = .ok (.iconst 0, 1) := by decide +kernel
theorem dX2_init_35 : decode cX2_init 35 = .ok (.putfield 26, 3) := by decide +kernel
theorem dX2_init_38 : decode cX2_init 38 = .ok (.aload_n 0, 1) := by decide +kernel
theorem dX2_init_39 : decode cX2_init 39 = .ok (.iconst 0, 1) := by decide +kernel
theorem dX2_init_40 : decode cX2_init 40 = .ok (.putfield 29, 3) := by decide +kernel
theorem dX2_init_43 : decode cX2_init 43 = .ok (.aload_n 0, 1) := by decide +kernel
theorem dX2_init_44 : decode cX2_init 44 = .ok (.iconst (-1), 1) := by decide +kernel
theorem dX2_init_45 : decode cX2_init 45 = .ok (.putfield 32, 3) := by decide +kernel
theorem dX2_init_48 : decode cX2_init 48 = .ok (.aload_n 0, 1) := by decide +kernel
theorem dX2_init_49 : decode cX2_init 49 = .ok (.iconst (-1), 1) := by decide +kernel
theorem dX2_init_50 : decode cX2_init 50 = .ok (.putfield 35, 3) := by decide +kernel
theorem dX2_init_53 : decode cX2_init 53 = .ok (.aload_n 0, 1) := by decide +kernel
theorem dX2_init_54 : decode cX2_init 54 = .ok (.iconst (-1), 1) := by decide +kernel
theorem dX2_init_55 : decode cX2_init 55 = .ok (.putfield 38, 3) := by decide +kernel
theorem dX2_init_58 : decode cX2_init 58 = .ok (.aload_n 0, 1) := by decide +kernel
theorem dX2_init_59 : decode cX2_init 59 = .ok (.iconst (-1), 1) := by decide +kernel
theorem dX2_init_60 : decode cX2_init 60 = .ok (.putfield 41, 3) := by decide +kernel
theorem dX2_init_63 : decode cX2_init 63 = .ok (.return_, 1) := by decide +kernel
theorem dX2_clear_0 : decode cX2_clear 0 = .ok (.aload_n 0, 1) := by decide +kernel
theorem dX2_clear_1 : decode cX2_clear 1 = .ok (.iconst 0, 1) := by decide +kernel
theorem dX2_clear_2 : decode cX2_clear 2 = .ok (.putfield 22, 3) := by decide +kernel
theorem dX2_clear_5 : decode cX2_clear 5 = .ok (.aload_n 0, 1) := by decide +kernel
theorem dX2_clear_6 : decode cX2_clear 6 = .ok (.iconst (-1), 1) := by decide +kernel
theorem dX2_clear_7 : decode cX2_clear 7 = .ok (.putfield 32, 3) := by decide +kernel
theorem dX2_clear_10 : decode cX2_clear 10 = .ok (.aload_n 0, 1) := by decide +kernel
theorem dX2_clear_11 : decode cX2_clear 11 = .ok (.iconst (-1), 1) := by decide +kernel
theorem dX2_clear_12 : decode cX2_clear 12 = .ok (.putfield 35, 3) := by decide +kernel
theorem dX2_clear_15 : decode cX2_clear 15 = .ok (.aload_n 0, 1) := by decide +kernel
theorem dX2_clear_16 : decode cX2_clear 16 = .ok (.iconst (-1), 1) := by decide +kernel
theorem dX2_clear_17 : decode cX2_clear 17 = .ok (.putfield 38, 3) := by decide +kernel
theorem dX2_clear_20 : decode cX2_clear 20 = .ok (.aload_n 0, 1) := by decide +kernel
theorem dX2_clear_21 : decode cX2_clear 21 = .ok (.iconst (-1), 1) := by decide +kernel
theorem dX2_clear_22 : decode cX2_clear 22 = .ok (.putfield 41, 3) := by decide +kernel
theorem dX2_clear_25 : decode cX2_clear 25 = .ok (.return_, 1) := by decide +kernel
theorem dX2_addNode_0 : decode cX2_addNode 0 = .ok (.aload_n 0, 1) := by decide +kernel
theorem dX2_addNode_1 : decode cX2_addNode 1 = .ok (.getfield 22, 3) := by decide +kernel
theorem dX2_addNode_4 : decode cX2_addNode 4 = .ok (.bipush 80, 2) := by decide +kernel
theorem dX2_addNode_6 : decode cX2_addNode 6 = .ok (.if_icmp .lt 5, 3) := by decide +kernel
theorem dX2_addNode_9 : decode cX2_addNode 9 = .ok (.iconst (-1), 1) := by decide +kernel
theorem dX2_addNode_10 : decode cX2_addNode 10 = .ok (.ireturn, 1) := by decide +kernel
theorem dX2_addNode_11 : decode cX2_addNode 11 = .ok (.aload_n 0, 1) := by decide +kernel
theorem dX2_addNode_12 : decode cX2_addNode 12 = .ok (.getfield 9, 3) := by decide +kernel
theorem dX2_addNode_15 : decode cX2_addNode 15 = .ok (.aload_n 0, 1) := by decide +kernel
theorem dX2_addNode_16 : decode cX2_addNode 16 = .ok (.getfield 22, 3) := by decide +kernel
theorem dX2_addNode_19 : decode cX2_addNode 19 = .ok (.iload_n 1, 1) := by decide +kernel
theorem dX2_addNode_20 : decode cX2_addNode 20 = .ok (.castore, 1) := by decide +kernel
theorem dX2_addNode_21 : decode cX2_addNode 21 = .ok (.aload_n 0, 1) := by decide +kernel
theorem dX2_addNode_22 : decode cX2_addNode 22 = .ok (.getfield 15, 3) := by decide +kernel
theorem dX2_addNode_25 : decode cX2_addNode 25 = .ok (.aload_n 0, 1) := by decide +kernel
theorem dX2_addNode_26 : decode cX2_addNode 26 = .ok (.getfield 22, 3) := by decide +kernel
theorem dX2_addNode_29 : decode cX2_addNode 29 = .ok (.iload_n 2, 1) := by decide +kernel
theorem dX2_addNode_30 : decode cX2_addNode 30 = .ok (.iastore, 1) := by decide +kernel
theorem dX2_addNode_31 : decode cX2_addNode 31 = .ok (.aload_n 0, 1) := by decide +kernel
theorem dX2_addNode_32 : decode cX2_addNode 32 = .ok (.getfield 19, 3) := by decide +kernel
theorem dX2_addNode_35 : decode cX2_addNode 35 = .ok (.aload_n 0, 1) := by decide +kernel
theorem dX2_addNode_36 : decode cX2_addNode 36 = .ok (.getfield 22, 3) := by decide +kernel
theorem dX2_addNode_39 : decode cX2_addNode 39 = .ok (.iload_n 3, 1) := by decide +kernel
theorem dX2_addNode_40 : decode cX2_addNode 40 = .ok (.iastore, 1) := by decide +kernel
theorem dX2_addNode_41 : decode cX2_addNode 41 = .ok (.aload_n 0, 1) := by decide +kernel
theorem dX2_addNode_42 : decode cX2_addNode 42 = .ok (.dup, 1) := by decide +kernel
theorem dX2_addNode_43 : decode cX2_addNode 43 = .ok (.getfield 22, 3) := by decide +kernel
theorem dX2_addNode_46 : decode cX2_addNode 46 = .ok (.iconst 1, 1) := by decide +kernel
theorem dX2_addNode_47 : decode cX2_addNode 47 = .ok (.iadd, 1) := by decide +kernel
theorem dX2_addNode_48 : decode cX2_addNode 48 = .ok (.putfield 22, 3) := by decide +kernel
theorem dX2_addNode_51 : decode cX2_addNode 51 = .ok (.aload_n 0, 1) := by decide +kernel
theorem dX2_addNode_52 : decode cX2_addNode 52 = .ok (.getfield 22, 3) := by decide +kernel
theorem dX2_addNode_55 : decode cX2_addNode 55 = .ok (.iconst 1, 1) := by decide +kernel
theorem dX2_addNode_56 : decode cX2_addNode 56 = .ok (.isub, 1) := by decide +kernel
theorem dX2_addNode_57 : decode cX2_addNode 57 = .ok (.ireturn, 1) := by decide +kernel
theorem dX2_join_0 : decode cX2_join 0 = .ok (.iload_n 2, 1) := by decide +kernel
theorem dX2_join_1 : decode cX2_join 1 = .ok (.iconst (-1), 1) := by decide +kernel
theorem dX2_join_2 : decode cX2_join 2 = .ok (.if_icmp .eq 8, 3) := by decide +kernel
theorem dX2_join_5 : decode cX2_join 5 = .ok (.iload_n 3, 1) := by decide +kernel
theorem dX2_join_6 : decode cX2_join 6 = .ok (.iconst (-1), 1) := by decide +kernel
theorem dX2_join_7 : decode cX2_join 7 = .ok (.if_icmp .ne 7, 3) := by decide +kernel
theorem dX2_join_10 : decode cX2_join 10 = .ok (.iconst (-1), 1) := by decide +kernel
theorem dX2_join_11 : decode cX2_join 11 = .ok (.goto 10, 3) := by decide +kernel
theorem dX2_join_14 : decode cX2_join 14 = .ok (.aload_n 0, 1) := by decide +kernel
theorem dX2_join_15 : decode cX2_join 15 = .ok (.iload_n 1, 1) := by decide +kernel
theorem dX2_join_16 : decode cX2_join 16 = .ok (.iload_n 2, 1) := by decide +kernel
theorem dX2_join_17 : decode cX2_join 17 = .ok (.iload_n 3, 1) := by decide +kernel
theorem dX2_join_18 : decode cX2_join 18 = .ok (.invokevirtual 44, 3) := by decide +kernel
theorem dX2_join_21 : decode cX2_join 21 = .ok (.ireturn, 1) := by decide +kernel
theorem dX3_init_0 : decode cX3_init 0 = .ok (.aload_n 0, 1) := by decide +kernel
theorem dX3_init_1 : decode cX3_init 1 = .ok (.invokespecial 3, 3) := by decide +kernel
theorem dX3_init_4 : decode cX3_init 4 = .ok (.aload_n 0, 1) := by decide +kernel
theorem dX3_init_5 : decode cX3_init 5 = .ok (.iconst 0, 1) := by decide +kernel
theorem dX3_init_6 : decode cX3_init 6 = .ok (.putfield 9, 3) := by decide +kernel
theorem dX3_init_9 : decode cX3_init 9 = .ok (.aload_n 0, 1) := by decide +kernel
theorem dX3_init_10 : decode cX3_init 10 = .ok (.aload_n 1, 1) := by decide +kernel
theorem dX3_init_11 : decode cX3_init 11 = .ok (.putfield 15, 3) := by decide +kernel
theorem dX3_init_14 : decode cX3_init 14 = .ok (.return_, 1) := by decide +kernel
theorem dX3_read_0 : decode cX3_read 0 = .ok (.aload_n 0, 1) := by decide +kernel
theorem dX3_read_1 : decode cX3_read 1 = .ok (.aload_n 1, 1) := by decide +kernel
theorem dX3_read_2 : decode cX3_read 2 = .ok (.putfield 19, 3) := by decide +kernel
theorem dX3_read_5 : decode cX3_read 5 = .ok (.aload_n 0, 1) := by decide +kernel
theorem dX3_read_6 : decode cX3_read 6 = .ok (.getfield 19, 3) := by decide +kernel
theorem dX3_read_9 : decode cX3_read 9 = .ok (.invokevirtual 23, 3) := by decide +kernel
theorem dX3_read_12 : decode cX3_read 12 = .ok (.aload_n 0, 1) := by decide +kernel
theorem dX3_read_13 : decode cX3_read 13 = .ok (.iconst 0, 1) := by decide +kernel
theorem dX3_read_14 : decode cX3_read 14 = .ok (.putfield 9, 3) := by decide +kernel
theorem dX3_read_17 : decode cX3_read 17 = .ok (.aload_n 0, 1) := by decide +kernel
theorem dX3_read_18 : decode cX3_read 18 = .ok (.invokevirtual 28, 3) := by decide +kernel
theorem dX3_read_21 : decode cX3_read 21 = .ok (.ifCond .eq 94, 3) := by decide +kernel
theorem dX3_read_24 : decode cX3_read 24 = .ok (.aload_n 0, 1) := by decide +kernel
theorem dX3_read_25 : decode cX3_read 25 = .ok (.bipush 58, 2) := by decide +kernel
theorem dX3_read_27 : decode cX3_read 27 = .ok (.invokevirtual 32, 3) := by decide +kernel
theorem dX3_read_30 : decode cX3_read 30 = .ok (.ifCond .eq 85, 3) := by decide +kernel
theorem dX3_read_33 : decode cX3_read 33 = .ok (.aload_n 0, 1) := by decide +kernel
theorem dX3_read_34 : decode cX3_read 34 = .ok (.invokevirtual 36, 3) := by decide +kernel
theorem dX3_read_37 : decode cX3_read 37 = .ok (.ifCond .eq 78, 3) := by decide +kernel
theorem dX3_read_40 : decode cX3_read 40 = .ok (.aload_n 0, 1) := by decide +kernel
theorem dX3_read_41 : decode cX3_read 41 = .ok (.bipush 59, 2) := by decide +kernel
theorem dX3_read_43 : decode cX3_read 43 = .ok (.invokevirtual 32, 3) := by decide +kernel
theorem dX3_read_46 : decode cX3_read 46 = .ok (.ifCond .eq 69, 3) := by decide +kernel
theorem dX3_read_49 : decode cX3_read 49 = .ok (.aload_n 0, 1) := by decide +kernel
theorem dX3_read_50 : decode cX3_read 50 = .ok (.invokevirtual 39, 3) := by decide +kernel
theorem dX3_read_53 : decode cX3_read 53 = .ok (.ifCond .eq 62, 3) := by decide +kernel
theorem dX3_read_56 : decode cX3_read 56 = .ok (.aload_n 0, 1) := by decide +kernel
theorem dX3_read_57 : decode cX3_read 57 = .ok (.bipush 59, 2) := by decide +kernel
theorem dX3_read_59 : decode cX3_read 59 = .ok (.invokevirtual 32, 3) := by decide +kernel
theorem dX3_read_62 : decode cX3_read 62 = .ok (.ifCond .eq 53, 3) := by decide +kernel
theorem dX3_read_65 : decode cX3_read 65 = .ok (.aload_n 0, 1) := by decide +kernel
theorem dX3_read_66 : decode cX3_read 66 = .ok (.invokevirtual 42, 3) := by decide +kernel
theorem dX3_read_69 : decode cX3_read 69 = .ok (.ifCond .eq 46, 3) := by decide +kernel
theorem dX3_read_72 : decode cX3_read 72 = .ok (.aload_n 0, 1) := by decide +kernel
theorem dX3_read_73 : decode cX3_read 73 = .ok (.bipush 59, 2) := by decide +kernel
theorem dX3_read_75 : decode cX3_read 75 = .ok (.invokevirtual 32, 3) := by decide +kernel
theorem dX3_read_78 : decode cX3_read 78 = .ok (.ifCond .eq 37, 3) := by decide +kernel
theorem dX3_read_81 : decode cX3_read 81 = .ok (.aload_n 0, 1) := by decide +kernel
theorem dX3_read_82 : decode cX3_read 82 = .ok (.invokevirtual 45, 3) := by decide +kernel
theorem dX3_read_85 : decode cX3_read 85 = .ok (.ifCond .eq 30, 3) := by decide +kernel
theorem dX3_read_88 : decode cX3_read 88 = .ok (.aload_n 0, 1) := by decide +kernel
theorem dX3_read_89 : decode cX3_read 89 = .ok (.bipush 59, 2) := by decide +kernel
theorem dX3_read_91 : decode cX3_read 91 = .ok (.invokevirtual 32, 3) := by decide +kernel
theorem dX3_read_94 : decode cX3_read 94 = .ok (.ifCond .eq 21, 3) := by decide +kernel
theorem dX3_read_97 : decode cX3_read 97 = .ok (.aload_n 0, 1) := by decide +kernel
theorem dX3_read_98 : decode cX3_read 98 = .ok (.invokevirtual 48, 3) := by decide +kernel
theorem dX3_read_101 : decode cX3_read 101 = .ok (.ifCond .eq 14, 3) := by decide +kernel
theorem dX3_read_104 : decode cX3_read 104 = .ok (.aload_n 0, 1) := by decide +kernel
theorem dX3_read_105 : decode cX3_read 105 = .ok (.invokevirtual 51, 3) := by decide +kernel
theorem dX3_read_108 : decode cX3_read 108 = .ok (.ifCond .ne 7, 3) := by decide +kernel
theorem dX3_read_111 : decode cX3_read 111 = .ok (.iconst 1, 1) := by decide +kernel
theorem dX3_read_112 : decode cX3_read 112 = .ok (.goto 4, 3) := by decide +kernel
theorem dX3_read_115 : decode cX3_read 115 = .ok (.iconst 0, 1) := by decide +kernel
theorem dX3_read_116 : decode cX3_read 116 = .ok (.istore_n 2, 1) := by decide +kernel
theorem dX3_read_117 : decode cX3_read 117 = .ok (.iload_n 2, 1) := by decide +kernel
theorem dX3_read_118 : decode cX3_read 118 = .ok (.ifCond .eq 7, 3) := by decide +kernel
theorem dX3_read_121 : decode cX3_read 121 = .ok (.iconst (-1), 1) := by decide +kernel
theorem dX3_read_122 : decode cX3_read 122 = .ok (.goto 7, 3) := by decide +kernel
theorem dX3_read_125 : decode cX3_read 125 = .ok (.aload_n 0, 1) := by decide +kernel
theorem dX3_read_126 : decode cX3_read 126 = .ok (.getfield 9, 3) := by decide +kernel
theorem dX3_read_129 : decode cX3_read 129 = .ok (.ireturn, 1) := by decide +kernel
theorem dX3_peek_0 : decode cX3_peek 0 = .ok (.aload_n 0, 1) := by decide +kernel
theorem dX3_peek_1 : decode cX3_peek 1 = .ok (.getfield 9, 3) := by decide +kernel
theorem dX3_peek_4 : decode cX3_peek 4 = .ok (.aload_n 0, 1) := by decide +kernel
theorem dX3_peek_5 : decode cX3_peek 5 = .ok (.getfield 15, 3) := by decide +kernel
theorem dX3_peek_8 : decode cX3_peek 8 = .ok (.getfield 55, 3) := by decide +kernel
theorem dX3_peek_11 : decode cX3_peek 11 = .ok (.if_icmp .ge 18, 3) := by decide +kernel
theorem dX3_peek_14 : decode cX3_peek 14 = .ok (.aload_n 0, 1) := by decide +kernel
theorem dX3_peek_15 : decode cX3_peek 15 = .ok (.getfield 15, 3) := by decide +kernel
theorem dX3_peek_18 : decode cX3_peek 18 = .ok (.getfield 60, 3) := by decide +kernel
theorem dX3_peek_21 : decode cX3_peek 21 = .ok (.aload_n 0, 1) := by decide +kernel
theorem dX3_peek_22 : decode cX3_peek 22 = .ok (.getfield 9, 3) := by decide +kernel
theorem dX3_peek_25 : decode cX3_peek 25 = .ok (.caload, 1) := by decide +kernel
theorem dX3_peek_26 : decode cX3_peek 26 = .ok (.goto 4, 3) := by decide +kernel
theorem dX3_peek_29 : decode cX3_peek 29 = .ok (.iconst 0, 1) := by decide +kernel
theorem dX3_peek_30 : decode cX3_peek 30 = .ok (.ireturn, 1) := by decide +kernel
theorem dX3_pass_0 : decode cX3_pass 0 = .ok (.aload_n 0, 1) := by decide +kernel
theorem dX3_pass_1 : decode cX3_pass 1 = .ok (.invokevirtual 51, 3) := by decide +kernel
theorem dX3_pass_4 : decode cX3_pass 4 = .ok (.iload_n 1, 1) := by decide +kernel
theorem dX3_pass_5 : decode cX3_pass 5 = .ok (.if_icmp .eq 5, 3) := by decide +kernel
theorem dX3_pass_8 : decode cX3_pass 8 = .ok (.iconst 0, 1) := by decide +kernel
theorem dX3_pass_9 : decode cX3_pass 9 = .ok (.ireturn, 1) := by decide +kernel
theorem dX3_pass_10 : decode cX3_pass 10 = .ok (.aload_n 0, 1) := by decide +kernel
theorem dX3_pass_11 : decode cX3_pass 11 = .ok (.dup, 1) := by decide +kernel
theorem dX3_pass_12 : decode cX3_pass 12 = .ok (.getfield 9, 3) := by decide +kernel
theorem dX3_pass_15 : decode cX3_pass 15 = .ok (.iconst 1, 1) := by decide +kernel
theorem dX3_pass_16 : decode cX3_pass 16 = .ok (.iadd, 1) := by decide +kernel
theorem dX3_pass_17 : decode cX3_pass 17 = .ok (.putfield 9, 3) := by decide +kernel
theorem dX3_pass_20 : decode cX3_pass 20 = .ok (.iconst 1, 1) := by decide +kernel
theorem dX3_pass_21 : decode cX3_pass 21 = .ok (.ireturn, 1) := by decide +kernel
theorem dX3_isDigit_0 : decode cX3_isDigit 0 = .ok (.iload_n 0, 1) := by decide +kernel
theorem dX3_isDigit_1 : decode cX3_isDigit 1 = .ok (.bipush 48, 2) := by decide +kernel
theorem dX3_isDigit_3 : decode cX3_isDigit 3 = .ok (.if_icmp .lt 13, 3) := by decide +kernel
theorem dX3_isDigit_6 : decode cX3_isDigit 6 = .ok (.iload_n 0, 1) := by decide +kernel
theorem dX3_isDigit_7 : decode cX3_isDigit 7 = .ok (.bipush 57, 2) := by decide +kernel
theorem dX3_isDigit_9 : decode cX3_isDigit 9 = .ok (.if_icmp .gt 7, 3) := by decide +kernel
theorem dX3_isDigit_12 : decode cX3_isDigit 12 = .ok (.iconst 1, 1) := by decide +kernel
theorem dX3_isDigit_13 : decode cX3_isDigit 13 = .ok (.goto 4, 3) := by decide +kernel
theorem dX3_isDigit_16 : decode cX3_isDigit 16 = .ok (.iconst 0, 1) := by decide +kernel
theorem dX3_isDigit_17 : decode cX3_isDigit 17 = .ok (.ireturn, 1) := by decide +kernel
theorem dX3_readKind_0 : decode cX3_readKind 0 = .ok (.aload_n 0, 1) := by decide +kernel
theorem dX3_readKind_1 : decode cX3_readKind 1 = .ok (.invokevirtual 51, 3) := by decide +kernel
theorem dX3_readKind_4 : decode cX3_readKind 4 = .ok (.istore_n 1, 1) := by decide +kernel
theorem dX3_readKind_5 : decode cX3_readKind 5 = .ok (.iload_n 1, 1) := by decide +kernel
theorem dX3_readKind_6 : decode cX3_readKind 6 = .ok (.bipush 48, 2) := by decide +kernel
theorem dX3_readKind_8 : decode cX3_readKind 8 = .ok (.if_icmp .lt 9, 3) := by decide +kernel
theorem dX3_readKind_11 : decode cX3_readKind 11 = .ok (.iload_n 1, 1) := by decide +kernel
theorem dX3_readKind_12 : decode cX3_readKind 12 = .ok (.bipush 52, 2) := by decide +kernel
theorem dX3_readKind_14 : decode cX3_readKind 14 = .ok (.if_icmp .lt 5, 3) := by decide +kernel
theorem dX3_readKind_17 : decode cX3_readKind 17 = .ok (.iconst 0, 1) := by decide +kernel
theorem dX3_readKind_18 : decode cX3_readKind 18 = .ok (.ireturn, 1) := by decide +kernel
theorem dX3_readKind_19 : decode cX3_readKind 19 = .ok (.aload_n 0, 1) := by decide +kernel
theorem dX3_readKind_20 : decode cX3_readKind 20 = .ok (.getfield 19, 3) := by decide +kernel
theorem dX3_readKind_23 : decode cX3_readKind 23 = .ok (.iload_n 1, 1) := by decide +kernel
theorem dX3_readKind_24 : decode cX3_readKind 24 = .ok (.bipush 48, 2) := by decide +kernel
theorem dX3_readKind_26 : decode cX3_readKind 26 = .ok (.isub, 1) := by decide +kernel
theorem dX3_readKind_27 : decode cX3_readKind 27 = .ok (.putfield 64, 3) := by decide +kernel
theorem dX3_readKind_30 : decode cX3_readKind 30 = .ok (.aload_n 0, 1) := by decide +kernel
theorem dX3_readKind_31 : decode cX3_readKind 31 = .ok (.dup, 1) := by decide +kernel
theorem dX3_readKind_32 : decode cX3_readKind 32 = .ok (.getfield 9, 3) := by decide +kernel
theorem dX3_readKind_35 : decode cX3_readKind 35 = .ok (.iconst 1, 1) := by decide +kernel
theorem dX3_readKind_36 : decode cX3_readKind 36 = .ok (.iadd, 1) := by decide +kernel
theorem dX3_readKind_37 : decode cX3_readKind 37 = .ok (.putfield 9, 3) := by decide +kernel
theorem dX3_readKind_40 : decode cX3_readKind 40 = .ok (.iconst 1, 1) := by decide +kernel
theorem dX3_readKind_41 : decode cX3_readKind 41 = .ok (.ireturn, 1) := by decide +kernel
theorem dX3_readFilter_0 : decode cX3_readFilter 0 = .ok (.aload_n 0, 1) := by decide +kernel
theorem dX3_readFilter_1 : decode cX3_readFilter 1 = .ok (.invokevirtual 51, 3) := by decide +kernel
theorem dX3_readFilter_4 : decode cX3_readFilter 4 = .ok (.bipush 59, 2) := by decide +kernel
theorem dX3_readFilter_6 : decode cX3_readFilter 6 = .ok (.if_icmp .ne 5, 3) := by decide +kernel
theorem dX3_readFilter_9 : decode cX3_readFilter 9 = .ok (.iconst 1, 1) := by decide +kernel
theorem dX3_readFilter_10 : decode cX3_readFilter 10 = .ok (.ireturn, 1) := by decide +kernel
theorem dX3_readFilter_11 : decode cX3_readFilter 11 = .ok (.aload_n 0, 1) := by decide +kernel
theorem dX3_readFilter_12 : decode cX3_readFilter 12 = .ok (.getfield 19, 3) := by decide +kernel
theorem dX3_readFilter_15 : decode cX3_readFilter 15 = .ok (.aload_n 0, 1) := by decide +kernel
theorem dX3_readFilter_16 : decode cX3_readFilter 16 = .ok (.iconst 0, 1) := by decide +kernel
theorem dX3_readFilter_17 : decode cX3_readFilter 17 = .ok (.invokevirtual 67, 3) := by decide +kernel
theorem dX3_readFilter_20 : decode cX3_readFilter 20 = .ok (.putfield 71, 3) := by decide +kernel
theorem dX3_readFilter_23 : decode cX3_readFilter 23 = .ok (.aload_n 0, 1) := by decide +kernel
theorem dX3_readFilter_24 : decode cX3_readFilter 24 = .ok (.getfield 19, 3) := by decide +kernel
theorem dX3_readFilter_27 : decode cX3_readFilter 27 = .ok (.getfield 71, 3) := by decide +kernel
theorem dX3_readFilter_30 : decode cX3_readFilter 30 = .ok (.iconst (-1), 1) := by decide +kernel
theorem dX3_readFilter_31 : decode cX3_readFilter 31 = .ok (.if_icmp .eq 7, 3) := by decide +kernel
theorem dX3_readFilter_34 : decode cX3_readFilter 34 = .ok (.iconst 1, 1) := by decide +kernel
theorem dX3_readFilter_35 : decode cX3_readFilter 35 = .ok (.goto 4, 3) := by decide +kernel
theorem dX3_readFilter_38 : decode cX3_readFilter 38 = .ok (.iconst 0, 1) := by decide +kernel
theorem dX3_readFilter_39 : decode cX3_readFilter 39 = .ok (.ireturn, 1) := by decide +kernel
theorem dX3_readSort_0 : decode cX3_readSort 0 = .ok (.aload_n 0, 1) := by decide +kernel
theorem dX3_readSort_1 : decode cX3_readSort 1 = .ok (.invokevirtual 51, 3) := by decide +kernel
theorem dX3_readSort_4 : decode cX3_readSort 4 = .ok (.bipush 59, 2) := by decide +kernel
theorem dX3_readSort_6 : decode cX3_readSort 6 = .ok (.if_icmp .ne 5, 3) := by decide +kernel
theorem dX3_readSort_9 : decode cX3_readSort 9 = .ok (.iconst 1, 1) := by decide +kernel
theorem dX3_readSort_10 : decode cX3_readSort 10 = .ok (.ireturn, 1) := by decide +kernel
theorem dX3_readSort_11 : decode cX3_readSort 11 = .ok (.aload_n 0, 1) := by decide +kernel
theorem dX3_readSort_12 : decode cX3_readSort 12 = .ok (.getfield 19, 3) := by decide +kernel
theorem dX3_readSort_15 : decode cX3_readSort 15 = .ok (.aload_n 0, 1) := by decide +kernel
theorem dX3_readSort_16 : decode cX3_readSort 16 = .ok (.iconst 0, 1) := by decide +kernel
theorem dX3_readSort_17 : decode cX3_readSort 17 = .ok (.invokevirtual 74, 3) := by decide +kernel
theorem dX3_readSort_20 : decode cX3_readSort 20 = .ok (.putfield 77, 3) := by decide +kernel
theorem dX3_readSort_23 : decode cX3_readSort 23 = .ok (.aload_n 0, 1) := by decide +kernel
theorem dX3_readSort_24 : decode cX3_readSort 24 = .ok (.getfield 19, 3) := by decide +kernel
theorem dX3_readSort_27 : decode cX3_readSort 27 = .ok (.getfield 77, 3) := by decide +kernel
theorem dX3_readSort_30 : decode cX3_readSort 30 = .ok (.iconst (-1), 1) := by decide +kernel
theorem dX3_readSort_31 : decode cX3_readSort 31 = .ok (.if_icmp .eq 7, 3) := by decide +kernel
theorem dX3_readSort_34 : decode cX3_readSort 34 = .ok (.iconst 1, 1) := by decide +kernel
theorem dX3_readSort_35 : decode cX3_readSort 35 = .ok (.goto 4, 3) := by decide +kernel
theorem dX3_readSort_38 : decode cX3_readSort 38 = .ok (.iconst 0, 1) := by decide +kernel
theorem dX3_readSort_39 : decode cX3_readSort 39 = .ok (.ireturn, 1) := by decide +kernel
theorem dX3_readLimit_0 : decode cX3_readLimit 0 = .ok (.aload_n 0, 1) := by decide +kernel
theorem dX3_readLimit_1 : decode cX3_readLimit 1 = .ok (.getfield 19, 3) := by decide +kernel
theorem dX3_readLimit_4 : decode cX3_readLimit 4 = .ok (.aload_n 0, 1) := by decide +kernel
theorem dX3_readLimit_5 : decode cX3_readLimit 5 = .ok (.iconst 2, 1) := by decide +kernel
theorem dX3_readLimit_6 : decode cX3_readLimit 6 = .ok (.invokevirtual 80, 3) := by decide +kernel
theorem dX3_readLimit_9 : decode cX3_readLimit 9 = .ok (.putfield 83, 3) := by decide +kernel
theorem dX3_readLimit_12 : decode cX3_readLimit 12 = .ok (.iconst 1, 1) := by decide +kernel
theorem dX3_readLimit_13 : decode cX3_readLimit 13 = .ok (.ireturn, 1) := by decide +kernel
theorem dX3_readGroup_0 : decode cX3_readGroup 0 = .ok (.aload_n 0, 1) := by decide +kernel
theorem dX3_readGroup_1 : decode cX3_readGroup 1 = .ok (.invokevirtual 51, 3) := by decide +kernel
theorem dX3_readGroup_4 : decode cX3_readGroup 4 = .ok (.bipush 59, 2) := by decide +kernel
theorem dX3_readGroup_6 : decode cX3_readGroup 6 = .ok (.if_icmp .ne 5, 3) := by decide +kernel
theorem dX3_readGroup_9 : decode cX3_readGroup 9 = .ok (.iconst 1, 1) := by decide +kernel
theorem dX3_readGroup_10 : decode cX3_readGroup 10 = .ok (.ireturn, 1) := by decide +kernel
theorem dX3_readGroup_11 : decode cX3_readGroup 11 = .ok (.aload_n 0, 1) := by decide +kernel
theorem dX3_readGroup_12 : decode cX3_readGroup 12 = .ok (.getfield 19, 3) := by decide +kernel
theorem dX3_readGroup_15 : decode cX3_readGroup 15 = .ok (.aload_n 0, 1) := by decide +kernel
theorem dX3_readGroup_16 : decode cX3_readGroup 16 = .ok (.iconst 0, 1) := by decide +kernel
theorem dX3_readGroup_17 : decode cX3_readGroup 17 = .ok (.invokevirtual 74, 3) := by decide +kernel
theorem dX3_readGroup_20 : decode cX3_readGroup 20 = .ok (.putfield 86, 3) := by decide +kernel
theorem dX3_readGroup_23 : decode cX3_readGroup 23 = .ok (.aload_n 0, 1) := by decide +kernel
theorem dX3_readGroup_24 : decode cX3_readGroup 24 = .ok (.getfield 19, 3) := by decide +kernel
theorem dX3_readGroup_27 : decode cX3_readGroup 27 = .ok (.getfield 86, 3) := by decide +kernel
theorem dX3_readGroup_30 : decode cX3_readGroup 30 = .ok (.iconst (-1), 1) := by decide +kernel
theorem dX3_readGroup_31 : decode cX3_readGroup 31 = .ok (.if_icmp .eq 7, 3) := by decide +kernel
theorem dX3_readGroup_34 : decode cX3_readGroup 34 = .ok (.iconst 1, 1) := by decide +kernel
theorem dX3_readGroup_35 : decode cX3_readGroup 35 = .ok (.goto 4, 3) := by decide +kernel
theorem dX3_readGroup_38 : decode cX3_readGroup 38 = .ok (.iconst 0, 1) := by decide +kernel
theorem dX3_readGroup_39 : decode cX3_readGroup 39 = .ok (.ireturn, 1) := by decide +kernel
theorem dX3_readSum_0 : decode cX3_readSum 0 = .ok (.aload_n 0, 1) := by decide +kernel
theorem dX3_readSum_1 : decode cX3_readSum 1 = .ok (.invokevirtual 51, 3) := by decide +kernel
theorem dX3_readSum_4 : decode cX3_readSum 4 = .ok (.ifCond .ne 5, 3) := by decide +kernel
theorem dX3_readSum_7 : decode cX3_readSum 7 = .ok (.iconst 1, 1) := by decide +kernel
theorem dX3_readSum_8 : decode cX3_readSum 8 = .ok (.ireturn, 1) := by decide +kernel
theorem dX3_readSum_9 : decode cX3_readSum 9 = .ok (.aload_n 0, 1) := by decide +kernel
theorem dX3_readSum_10 : decode cX3_readSum 10 = .ok (.getfield 19, 3) := by decide +kernel
theorem dX3_readSum_13 : decode cX3_readSum 13 = .ok (.aload_n 0, 1) := by decide +kernel
theorem dX3_readSum_14 : decode cX3_readSum 14 = .ok (.iconst 0, 1) := by decide +kernel
theorem dX3_readSum_15 : decode cX3_readSum 15 = .ok (.invokevirtual 74, 3) := by decide +kernel
theorem dX3_readSum_18 : decode cX3_readSum 18 = .ok (.putfield 89, 3) := by decide +kernel
theorem dX3_readSum_21 : decode cX3_readSum 21 = .ok (.aload_n 0, 1) := by decide +kernel
theorem dX3_readSum_22 : decode cX3_readSum 22 = .ok (.getfield 19, 3) := by decide +kernel
theorem dX3_readSum_25 : decode cX3_readSum 25 = .ok (.getfield 89, 3) := by decide +kernel
theorem dX3_readSum_28 : decode cX3_readSum 28 = .ok (.iconst (-1), 1) := by decide +kernel
theorem dX3_readSum_29 : decode cX3_readSum 29 = .ok (.if_icmp .eq 7, 3) := by decide +kernel
theorem dX3_readSum_32 : decode cX3_readSum 32 = .ok (.iconst 1, 1) := by decide +kernel
theorem dX3_readSum_33 : decode cX3_readSum 33 = .ok (.goto 4, 3) := by decide +kernel
theorem dX3_readSum_36 : decode cX3_readSum 36 = .ok (.iconst 0, 1) := by decide +kernel
theorem dX3_readSum_37 : decode cX3_readSum 37 = .ok (.ireturn, 1) := by decide +kernel
theorem dX3_readOr_0 : decode cX3_readOr 0 = .ok (.aload_n 0, 1) := by decide +kernel
theorem dX3_readOr_1 : decode cX3_readOr 1 = .ok (.iload_n 1, 1) := by decide +kernel
theorem dX3_readOr_2 : decode cX3_readOr 2 = .ok (.invokevirtual 92, 3) := by decide +kernel
theorem dX3_readOr_5 : decode cX3_readOr 5 = .ok (.istore_n 2, 1) := by decide +kernel
theorem dX3_readOr_6 : decode cX3_readOr 6 = .ok (.iconst 0, 1) := by decide +kernel
theorem dX3_readOr_7 : decode cX3_readOr 7 = .ok (.istore_n 3, 1) := by decide +kernel
theorem dX3_readOr_8 : decode cX3_readOr 8 = .ok (.iload_n 3, 1) := by decide +kernel
theorem dX3_readOr_9 : decode cX3_readOr 9 = .ok (.bipush 80, 2) := by decide +kernel
theorem dX3_readOr_11 : decode cX3_readOr 11 = .ok (.if_icmp .ge 39, 3) := by decide +kernel
theorem dX3_readOr_14 : decode cX3_readOr 14 = .ok (.iload_n 2, 1) := by decide +kernel
theorem dX3_readOr_15 : decode cX3_readOr 15 = .ok (.iconst (-1), 1) := by decide +kernel
theorem dX3_readOr_16 : decode cX3_readOr 16 = .ok (.if_icmp .eq 34, 3) := by decide +kernel
theorem dX3_readOr_19 : decode cX3_readOr 19 = .ok (.aload_n 0, 1) := by decide +kernel
theorem dX3_readOr_20 : decode cX3_readOr 20 = .ok (.bipush 124, 2) := by decide +kernel
theorem dX3_readOr_22 : decode cX3_readOr 22 = .ok (.invokevirtual 32, 3) := by decide +kernel
theorem dX3_readOr_25 : decode cX3_readOr 25 = .ok (.ifCond .eq 25, 3) := by decide +kernel
theorem dX3_readOr_28 : decode cX3_readOr 28 = .ok (.aload_n 0, 1) := by decide +kernel
theorem dX3_readOr_29 : decode cX3_readOr 29 = .ok (.getfield 19, 3) := by decide +kernel
theorem dX3_readOr_32 : decode cX3_readOr 32 = .ok (.bipush 124, 2) := by decide +kernel
theorem dX3_readOr_34 : decode cX3_readOr 34 = .ok (.iload_n 2, 1) := by decide +kernel
theorem dX3_readOr_35 : decode cX3_readOr 35 = .ok (.aload_n 0, 1) := by decide +kernel
theorem dX3_readOr_36 : decode cX3_readOr 36 = .ok (.iload_n 1, 1) := by decide +kernel
theorem dX3_readOr_37 : decode cX3_readOr 37 = .ok (.invokevirtual 92, 3) := by decide +kernel
theorem dX3_readOr_40 : decode cX3_readOr 40 = .ok (.invokevirtual 95, 3) := by decide +kernel
theorem dX3_readOr_43 : decode cX3_readOr 43 = .ok (.istore_n 2, 1) := by decide +kernel
theorem dX3_readOr_44 : decode cX3_readOr 44 = .ok (.iinc 3 1, 3) := by decide +kernel
theorem dX3_readOr_47 : decode cX3_readOr 47 = .ok (.goto (-39), 3) := by decide +kernel
theorem dX3_readOr_50 : decode cX3_readOr 50 = .ok (.iload_n 2, 1) := by decide +kernel
theorem dX3_readOr_51 : decode cX3_readOr 51 = .ok (.ireturn, 1) := by decide +kernel
theorem dX3_readAnd_0 : decode cX3_readAnd 0 = .ok (.aload_n 0, 1) := by decide +kernel
theorem dX3_readAnd_1 : decode cX3_readAnd 1 = .ok (.iload_n 1, 1) := by decide +kernel
theorem dX3_readAnd_2 : decode cX3_readAnd 2 = .ok (.invokevirtual 99, 3) := by decide +kernel
theorem dX3_readAnd_5 : decode cX3_readAnd 5 = .ok (.istore_n 2, 1) := by decide +kernel
theorem dX3_readAnd_6 : decode cX3_readAnd 6 = .ok (.iconst 0, 1) := by decide +kernel
theorem dX3_readAnd_7 : decode cX3_readAnd 7 = .ok (.istore_n 3, 1) := by decide +kernel
theorem dX3_readAnd_8 : decode cX3_readAnd 8 = .ok (.iload_n 3, 1) := by decide +kernel
theorem dX3_readAnd_9 : decode cX3_readAnd 9 = .ok (.bipush 80, 2) := by decide +kernel
theorem dX3_readAnd_11 : decode cX3_readAnd 11 = .ok (.if_icmp .ge 39, 3) := by decide +kernel
theorem dX3_readAnd_14 : decode cX3_readAnd 14 = .ok (.iload_n 2, 1) := by decide +kernel
theorem dX3_readAnd_15 : decode cX3_readAnd 15 = .ok (.iconst (-1), 1) := by decide +kernel
theorem dX3_readAnd_16 : decode cX3_readAnd 16 = .ok (.if_icmp .eq 34, 3) := by decide +kernel
theorem dX3_readAnd_19 : decode cX3_readAnd 19 = .ok (.aload_n 0, 1) := by decide +kernel
theorem dX3_readAnd_20 : decode cX3_readAnd 20 = .ok (.bipush 38, 2) := by decide +kernel
theorem dX3_readAnd_22 : decode cX3_readAnd 22 = .ok (.invokevirtual 32, 3) := by decide +kernel
theorem dX3_readAnd_25 : decode cX3_readAnd 25 = .ok (.ifCond .eq 25, 3) := by decide +kernel
theorem dX3_readAnd_28 : decode cX3_readAnd 28 = .ok (.aload_n 0, 1) := by decide +kernel
theorem dX3_readAnd_29 : decode cX3_readAnd 29 = .ok (.getfield 19, 3) := by decide +kernel
theorem dX3_readAnd_32 : decode cX3_readAnd 32 = .ok (.bipush 38, 2) := by decide +kernel
theorem dX3_readAnd_34 : decode cX3_readAnd 34 = .ok (.iload_n 2, 1) := by decide +kernel
theorem dX3_readAnd_35 : decode cX3_readAnd 35 = .ok (.aload_n 0, 1) := by decide +kernel
theorem dX3_readAnd_36 : decode cX3_readAnd 36 = .ok (.iload_n 1, 1) := by decide +kernel
theorem dX3_readAnd_37 : decode cX3_readAnd 37 = .ok (.invokevirtual 99, 3) := by decide +kernel
theorem dX3_readAnd_40 : decode cX3_readAnd 40 = .ok (.invokevirtual 95, 3) := by decide +kernel
theorem dX3_readAnd_43 : decode cX3_readAnd 43 = .ok (.istore_n 2, 1) := by decide +kernel
theorem dX3_readAnd_44 : decode cX3_readAnd 44 = .ok (.iinc 3 1, 3) := by decide +kernel
theorem dX3_readAnd_47 : decode cX3_readAnd 47 = .ok (.goto (-39), 3) := by decide +kernel
theorem dX3_readAnd_50 : decode cX3_readAnd 50 = .ok (.iload_n 2, 1) := by decide +kernel
theorem dX3_readAnd_51 : decode cX3_readAnd 51 = .ok (.ireturn, 1) := by decide +kernel
theorem dX3_readTest_0 : decode cX3_readTest 0 = .ok (.aload_n 0, 1) := by decide +kernel
theorem dX3_readTest_1 : decode cX3_readTest 1 = .ok (.invokevirtual 51, 3) := by decide +kernel
theorem dX3_readTest_4 : decode cX3_readTest 4 = .ok (.istore_n 2, 1) := by decide +kernel
theorem dX3_readTest_5 : decode cX3_readTest 5 = .ok (.iload_n 2, 1) := by decide +kernel
theorem dX3_readTest_6 : decode cX3_readTest 6 = .ok (.bipush 33, 2) := by decide +kernel
theorem dX3_readTest_8 : decode cX3_readTest 8 = .ok (.if_icmp .eq 15, 3) := by decide +kernel
theorem dX3_readTest_11 : decode cX3_readTest 11 = .ok (.iload_n 2, 1) := by decide +kernel
theorem dX3_readTest_12 : decode cX3_readTest 12 = .ok (.bipush 123, 2) := by decide +kernel
theorem dX3_readTest_14 : decode cX3_readTest 14 = .ok (.if_icmp .eq 9, 3) := by decide +kernel
theorem dX3_readTest_17 : decode cX3_readTest 17 = .ok (.aload_n 0, 1) := by decide +kernel
theorem dX3_readTest_18 : decode cX3_readTest 18 = .ok (.iload_n 1, 1) := by decide +kernel
theorem dX3_readTest_19 : decode cX3_readTest 19 = .ok (.invokevirtual 102, 3) := by decide +kernel
theorem dX3_readTest_22 : decode cX3_readTest 22 = .ok (.ireturn, 1) := by decide +kernel
theorem dX3_readTest_23 : decode cX3_readTest 23 = .ok (.iload_n 1, 1) := by decide +kernel
theorem dX3_readTest_24 : decode cX3_readTest 24 = .ok (.bipush 12, 2) := by decide +kernel
theorem dX3_readTest_26 : decode cX3_readTest 26 = .ok (.if_icmp .lt 5, 3) := by decide +kernel
theorem dX3_readTest_29 : decode cX3_readTest 29 = .ok (.iconst (-1), 1) := by decide +kernel
theorem dX3_readTest_30 : decode cX3_readTest 30 = .ok (.ireturn, 1) := by decide +kernel
theorem dX3_readTest_31 : decode cX3_readTest 31 = .ok (.aload_n 0, 1) := by decide +kernel
theorem dX3_readTest_32 : decode cX3_readTest 32 = .ok (.dup, 1) := by decide +kernel
theorem dX3_readTest_33 : decode cX3_readTest 33 = .ok (.getfield 9, 3) := by decide +kernel
theorem dX3_readTest_36 : decode cX3_readTest 36 = .ok (.iconst 1, 1) := by decide +kernel
theorem dX3_readTest_37 : decode cX3_readTest 37 = .ok (.iadd, 1) := by decide +kernel
theorem dX3_readTest_38 : decode cX3_readTest 38 = .ok (.putfield 9, 3) := by decide +kernel
theorem dX3_readTest_41 : decode cX3_readTest 41 = .ok (.iload_n 2, 1) := by decide +kernel
theorem dX3_readTest_42 : decode cX3_readTest 42 = .ok (.bipush 33, 2) := by decide +kernel
theorem dX3_readTest_44 : decode cX3_readTest 44 = .ok (.if_icmp .ne 23, 3) := by decide +kernel
theorem dX3_readTest_47 : decode cX3_readTest 47 = .ok (.aload_n 0, 1) := by decide +kernel
theorem dX3_readTest_48 : decode cX3_readTest 48 = .ok (.iload_n 1, 1) := by decide +kernel
theorem dX3_readTest_49 : decode cX3_readTest 49 = .ok (.iconst 1, 1) := by decide +kernel
theorem dX3_readTest_50 : decode cX3_readTest 50 = .ok (.iadd, 1) := by decide +kernel
theorem dX3_readTest_51 : decode cX3_readTest 51 = .ok (.invokevirtual 99, 3) := by decide +kernel
theorem dX3_readTest_54 : decode cX3_readTest 54 = .ok (.istore_n 3, 1) := by decide +kernel
theorem dX3_readTest_55 : decode cX3_readTest 55 = .ok (.aload_n 0, 1) := by decide +kernel
theorem dX3_readTest_56 : decode cX3_readTest 56 = .ok (.getfield 19, 3) := by decide +kernel
theorem dX3_readTest_59 : decode cX3_readTest 59 = .ok (.bipush 33, 2) := by decide +kernel
theorem dX3_readTest_61 : decode cX3_readTest 61 = .ok (.iload_n 3, 1) := by decide +kernel
theorem dX3_readTest_62 : decode cX3_readTest 62 = .ok (.iload_n 3, 1) := by decide +kernel
theorem dX3_readTest_63 : decode cX3_readTest 63 = .ok (.invokevirtual 95, 3) := by decide +kernel
theorem dX3_readTest_66 : decode cX3_readTest 66 = .ok (.ireturn, 1) := by decide +kernel
theorem dX3_readTest_67 : decode cX3_readTest 67 = .ok (.aload_n 0, 1) := by decide +kernel
theorem dX3_readTest_68 : decode cX3_readTest 68 = .ok (.iload_n 1, 1) := by decide +kernel
theorem dX3_readTest_69 : decode cX3_readTest 69 = .ok (.iconst 1, 1) := by decide +kernel
theorem dX3_readTest_70 : decode cX3_readTest 70 = .ok (.iadd, 1) := by decide +kernel
theorem dX3_readTest_71 : decode cX3_readTest 71 = .ok (.invokevirtual 67, 3) := by decide +kernel
theorem dX3_readTest_74 : decode cX3_readTest 74 = .ok (.istore_n 3, 1) := by decide +kernel
theorem dX3_readTest_75 : decode cX3_readTest 75 = .ok (.iload_n 3, 1) := by decide +kernel
theorem dX3_readTest_76 : decode cX3_readTest 76 = .ok (.iconst (-1), 1) := by decide +kernel
theorem dX3_readTest_77 : decode cX3_readTest 77 = .ok (.if_icmp .eq 16, 3) := by decide +kernel
theorem dX3_readTest_80 : decode cX3_readTest 80 = .ok (.aload_n 0, 1) := by decide +kernel
theorem dX3_readTest_81 : decode cX3_readTest 81 = .ok (.bipush 125, 2) := by decide +kernel
theorem dX3_readTest_83 : decode cX3_readTest 83 = .ok (.invokevirtual 32, 3) := by decide +kernel
theorem dX3_readTest_86 : decode cX3_readTest 86 = .ok (.ifCond .eq 7, 3) := by decide +kernel
theorem dX3_readTest_89 : decode cX3_readTest 89 = .ok (.iload_n 3, 1) := by decide +kernel
theorem dX3_readTest_90 : decode cX3_readTest 90 = .ok (.goto 4, 3) := by decide +kernel
theorem dX3_readTest_93 : decode cX3_readTest 93 = .ok (.iconst (-1), 1) := by decide +kernel
theorem dX3_readTest_94 : decode cX3_readTest 94 = .ok (.ireturn, 1) := by decide +kernel
theorem dX3_readComparison_0 : decode cX3_readComparison 0 = .ok (.aload_n 0, 1) := by decide +kernel
theorem dX3_readComparison_1 : decode cX3_readComparison 1 = .ok (.iload_n 1, 1) := by decide +kernel
theorem dX3_readComparison_2 : decode cX3_readComparison 2 = .ok (.invokevirtual 74, 3) := by decide +kernel
theorem dX3_readComparison_5 : decode cX3_readComparison 5 = .ok (.istore_n 2, 1) := by decide +kernel
theorem dX3_readComparison_6 : decode cX3_readComparison 6 = .ok (.aload_n 0, 1) := by decide +kernel
theorem dX3_readComparison_7 : decode cX3_readComparison 7 = .ok (.invokevirtual 51, 3) := by decide +kernel
theorem dX3_readComparison_10 : decode cX3_readComparison 10 = .ok (.istore_n 3, 1) := by decide +kernel
theorem dX3_readComparison_11 : decode cX3_readComparison 11 = .ok (.iload_n 2, 1) := by decide +kernel
theorem dX3_readComparison_12 : decode cX3_readComparison 12 = .ok (.iconst (-1), 1) := by decide +kernel
theorem dX3_readComparison_13 : decode cX3_readComparison 13 = .ok (.if_icmp .eq 27, 3) := by decide +kernel
theorem dX3_readComparison_16 : decode cX3_readComparison 16 = .ok (.iload_n 3, 1) := by decide +kernel
theorem dX3_readComparison_17 : decode cX3_readComparison 17 = .ok (.bipush 61, 2) := by decide +kernel
theorem dX3_readComparison_19 : decode cX3_readComparison 19 = .ok (.if_icmp .eq 23, 3) := by decide +kernel
theorem dX3_readComparison_22 : decode cX3_readComparison 22 = .ok (.iload_n 3, 1) := by decide +kernel
theorem dX3_readComparison_23 : decode cX3_readComparison 23 = .ok (.bipush 35, 2) := by decide +kernel
theorem dX3_readComparison_25 : decode cX3_readComparison 25 = .ok (.if_icmp .eq 17, 3) := by decide +kernel
theorem dX3_readComparison_28 : decode cX3_readComparison 28 = .ok (.iload_n 3, 1) := by decide +kernel
theorem dX3_readComparison_29 : decode cX3_readComparison 29 = .ok (.bipush 60, 2) := by decide +kernel
theorem dX3_readComparison_31 : decode cX3_readComparison 31 = .ok (.if_icmp .eq 11, 3) := by decide +kernel
theorem dX3_readComparison_34 : decode cX3_readComparison 34 = .ok (.iload_n 3, 1) := by decide +kernel
theorem dX3_readComparison_35 : decode cX3_readComparison 35 = .ok (.bipush 62, 2) := by decide +kernel
theorem dX3_readComparison_37 : decode cX3_readComparison 37 = .ok (.if_icmp .eq 5, 3) := by decide +kernel
theorem dX3_readComparison_40 : decode cX3_readComparison 40 = .ok (.iconst (-1), 1) := by decide +kernel
theorem dX3_readComparison_41 : decode cX3_readComparison 41 = .ok (.ireturn, 1) := by decide +kernel
theorem dX3_readComparison_42 : decode cX3_readComparison 42 = .ok (.aload_n 0, 1) := by decide +kernel
theorem dX3_readComparison_43 : decode cX3_readComparison 43 = .ok (.dup, 1) := by decide +kernel
theorem dX3_readComparison_44 : decode cX3_readComparison 44 = .ok (.getfield 9, 3) := by decide +kernel
theorem dX3_readComparison_47 : decode cX3_readComparison 47 = .ok (.iconst 1, 1) := by decide +kernel
theorem dX3_readComparison_48 : decode cX3_readComparison 48 = .ok (.iadd, 1) := by decide +kernel
theorem dX3_readComparison_49 : decode cX3_readComparison 49 = .ok (.putfield 9, 3) := by decide +kernel
theorem dX3_readComparison_52 : decode cX3_readComparison 52 = .ok (.aload_n 0, 1) := by decide +kernel
theorem dX3_readComparison_53 : decode cX3_readComparison 53 = .ok (.getfield 19, 3) := by decide +kernel
theorem dX3_readComparison_56 : decode cX3_readComparison 56 = .ok (.iload_n 3, 1) := by decide +kernel
theorem dX3_readComparison_57 : decode cX3_readComparison 57 = .ok (.iload_n 2, 1) := by decide +kernel
theorem dX3_readComparison_58 : decode cX3_readComparison 58 = .ok (.aload_n 0, 1) := by decide +kernel
theorem dX3_readComparison_59 : decode cX3_readComparison 59 = .ok (.iload_n 1, 1) := by decide +kernel
theorem dX3_readComparison_60 : decode cX3_readComparison 60 = .ok (.invokevirtual 74, 3) := by decide +kernel
theorem dX3_readComparison_63 : decode cX3_readComparison 63 = .ok (.invokevirtual 95, 3) := by decide +kernel
theorem dX3_readComparison_66 : decode cX3_readComparison 66 = .ok (.ireturn, 1) := by decide +kernel
theorem dX3_readX_0 : decode cX3_readX 0 = .ok (.aload_n 0, 1) := by decide +kernel
theorem dX3_readX_1 : decode cX3_readX 1 = .ok (.iload_n 1, 1) := by decide +kernel
theorem dX3_readX_2 : decode cX3_readX 2 = .ok (.invokevirtual 105, 3) := by decide +kernel
theorem dX3_readX_5 : decode cX3_readX 5 = .ok (.istore_n 2, 1) := by decide +kernel
theorem dX3_readX_6 : decode cX3_readX 6 = .ok (.iconst 0, 1) := by decide +kernel
theorem dX3_readX_7 : decode cX3_readX 7 = .ok (.istore_n 3, 1) := by decide +kernel
theorem dX3_readX_8 : decode cX3_readX 8 = .ok (.iload_n 3, 1) := by decide +kernel
theorem dX3_readX_9 : decode cX3_readX 9 = .ok (.bipush 80, 2) := by decide +kernel
theorem dX3_readX_11 : decode cX3_readX 11 = .ok (.if_icmp .ge 62, 3) := by decide +kernel
theorem dX3_readX_14 : decode cX3_readX 14 = .ok (.iload_n 2, 1) := by decide +kernel
theorem dX3_readX_15 : decode cX3_readX 15 = .ok (.iconst (-1), 1) := by decide +kernel
theorem dX3_readX_16 : decode cX3_readX 16 = .ok (.if_icmp .eq 57, 3) := by decide +kernel
theorem dX3_readX_19 : decode cX3_readX 19 = .ok (.aload_n 0, 1) := by decide +kernel
theorem dX3_readX_20 : decode cX3_readX 20 = .ok (.invokevirtual 51, 3) := by decide +kernel
theorem dX3_readX_23 : decode cX3_readX 23 = .ok (.istore 4, 2) := by decide +kernel
theorem dX3_readX_25 : decode cX3_readX 25 = .ok (.iload 4, 2) := by decide +kernel
theorem dX3_readX_27 : decode cX3_readX 27 = .ok (.bipush 43, 2) := by decide +kernel
theorem dX3_readX_29 : decode cX3_readX 29 = .ok (.if_icmp .eq 12, 3) := by decide +kernel
theorem dX3_readX_32 : decode cX3_readX 32 = .ok (.iload 4, 2) := by decide +kernel
theorem dX3_readX_34 : decode cX3_readX 34 = .ok (.bipush 45, 2) := by decide +kernel
theorem dX3_readX_36 : decode cX3_readX 36 = .ok (.if_icmp .eq 5, 3) := by decide +kernel
theorem dX3_readX_39 : decode cX3_readX 39 = .ok (.iload_n 2, 1) := by decide +kernel
theorem dX3_readX_40 : decode cX3_readX 40 = .ok (.ireturn, 1) := by decide +kernel
theorem dX3_readX_41 : decode cX3_readX 41 = .ok (.aload_n 0, 1) := by decide +kernel
theorem dX3_readX_42 : decode cX3_readX 42 = .ok (.dup, 1) := by decide +kernel
theorem dX3_readX_43 : decode cX3_readX 43 = .ok (.getfield 9, 3) := by decide +kernel
theorem dX3_readX_46 : decode cX3_readX 46 = .ok (.iconst 1, 1) := by decide +kernel
theorem dX3_readX_47 : decode cX3_readX 47 = .ok (.iadd, 1) := by decide +kernel
theorem dX3_readX_48 : decode cX3_readX 48 = .ok (.putfield 9, 3) := by decide +kernel
theorem dX3_readX_51 : decode cX3_readX 51 = .ok (.aload_n 0, 1) := by decide +kernel
theorem dX3_readX_52 : decode cX3_readX 52 = .ok (.getfield 19, 3) := by decide +kernel
theorem dX3_readX_55 : decode cX3_readX 55 = .ok (.iload 4, 2) := by decide +kernel
theorem dX3_readX_57 : decode cX3_readX 57 = .ok (.iload_n 2, 1) := by decide +kernel
theorem dX3_readX_58 : decode cX3_readX 58 = .ok (.aload_n 0, 1) := by decide +kernel
theorem dX3_readX_59 : decode cX3_readX 59 = .ok (.iload_n 1, 1) := by decide +kernel
theorem dX3_readX_60 : decode cX3_readX 60 = .ok (.invokevirtual 105, 3) := by decide +kernel
theorem dX3_readX_63 : decode cX3_readX 63 = .ok (.invokevirtual 95, 3) := by decide +kernel
theorem dX3_readX_66 : decode cX3_readX 66 = .ok (.istore_n 2, 1) := by decide +kernel
theorem dX3_readX_67 : decode cX3_readX 67 = .ok (.iinc 3 1, 3) := by decide +kernel
theorem dX3_readX_70 : decode cX3_readX 70 = .ok (.goto (-62), 3) := by decide +kernel
theorem dX3_readX_73 : decode cX3_readX 73 = .ok (.iload_n 2, 1) := by decide +kernel
theorem dX3_readX_74 : decode cX3_readX 74 = .ok (.ireturn, 1) := by decide +kernel
theorem dX3_readTerm_0 : decode cX3_readTerm 0 = .ok (.aload_n 0, 1) := by decide +kernel
theorem dX3_readTerm_1 : decode cX3_readTerm 1 = .ok (.iload_n 1, 1) := by decide +kernel
theorem dX3_readTerm_2 : decode cX3_readTerm 2 = .ok (.invokevirtual 108, 3) := by decide +kernel
theorem dX3_readTerm_5 : decode cX3_readTerm 5 = .ok (.istore_n 2, 1) := by decide +kernel
theorem dX3_readTerm_6 : decode cX3_readTerm 6 = .ok (.iconst 0, 1) := by decide +kernel
theorem dX3_readTerm_7 : decode cX3_readTerm 7 = .ok (.istore_n 3, 1) := by decide +kernel
theorem dX3_readTerm_8 : decode cX3_readTerm 8 = .ok (.iload_n 3, 1) := by decide +kernel
theorem dX3_readTerm_9 : decode cX3_readTerm 9 = .ok (.bipush 80, 2) := by decide +kernel
theorem dX3_readTerm_11 : decode cX3_readTerm 11 = .ok (.if_icmp .ge 69, 3) := by decide +kernel
theorem dX3_readTerm_14 : decode cX3_readTerm 14 = .ok (.iload_n 2, 1) := by decide +kernel
theorem dX3_readTerm_15 : decode cX3_readTerm 15 = .ok (.iconst (-1), 1) := by decide +kernel
theorem dX3_readTerm_16 : decode cX3_readTerm 16 = .ok (.if_icmp .eq 64, 3) := by decide +kernel
theorem dX3_readTerm_19 : decode cX3_readTerm 19 = .ok (.aload_n 0, 1) := by decide +kernel
theorem dX3_readTerm_20 : decode cX3_readTerm 20 = .ok (.invokevirtual 51, 3) := by decide +kernel
theorem dX3_readTerm_23 : decode cX3_readTerm 23 = .ok (.istore 4, 2) := by decide +kernel
theorem dX3_readTerm_25 : decode cX3_readTerm 25 = .ok (.iload 4, 2) := by decide +kernel
theorem dX3_readTerm_27 : decode cX3_readTerm 27 = .ok (.bipush 42, 2) := by decide +kernel
theorem dX3_readTerm_29 : decode cX3_readTerm 29 = .ok (.if_icmp .eq 19, 3) := by decide +kernel
theorem dX3_readTerm_32 : decode cX3_readTerm 32 = .ok (.iload 4, 2) := by decide +kernel
theorem dX3_readTerm_34 : decode cX3_readTerm 34 = .ok (.bipush 47, 2) := by decide +kernel
theorem dX3_readTerm_36 : decode cX3_readTerm 36 = .ok (.if_icmp .eq 12, 3) := by decide +kernel
theorem dX3_readTerm_39 : decode cX3_readTerm 39 = .ok (.iload 4, 2) := by decide +kernel
theorem dX3_readTerm_41 : decode cX3_readTerm 41 = .ok (.bipush 37, 2) := by decide +kernel
theorem dX3_readTerm_43 : decode cX3_readTerm 43 = .ok (.if_icmp .eq 5, 3) := by decide +kernel
theorem dX3_readTerm_46 : decode cX3_readTerm 46 = .ok (.iload_n 2, 1) := by decide +kernel
theorem dX3_readTerm_47 : decode cX3_readTerm 47 = .ok (.ireturn, 1) := by decide +kernel
theorem dX3_readTerm_48 : decode cX3_readTerm 48 = .ok (.aload_n 0, 1) := by decide +kernel
theorem dX3_readTerm_49 : decode cX3_readTerm 49 = .ok (.dup, 1) := by decide +kernel
theorem dX3_readTerm_50 : decode cX3_readTerm 50 = .ok (.getfield 9, 3) := by decide +kernel
theorem dX3_readTerm_53 : decode cX3_readTerm 53 = .ok (.iconst 1, 1) := by decide +kernel
theorem dX3_readTerm_54 : decode cX3_readTerm 54 = .ok (.iadd, 1) := by decide +kernel
theorem dX3_readTerm_55 : decode cX3_readTerm 55 = .ok (.putfield 9, 3) := by decide +kernel
theorem dX3_readTerm_58 : decode cX3_readTerm 58 = .ok (.aload_n 0, 1) := by decide +kernel
theorem dX3_readTerm_59 : decode cX3_readTerm 59 = .ok (.getfield 19, 3) := by decide +kernel
theorem dX3_readTerm_62 : decode cX3_readTerm 62 = .ok (.iload 4, 2) := by decide +kernel
theorem dX3_readTerm_64 : decode cX3_readTerm 64 = .ok (.iload_n 2, 1) := by decide +kernel
theorem dX3_readTerm_65 : decode cX3_readTerm 65 = .ok (.aload_n 0, 1) := by decide +kernel
theorem dX3_readTerm_66 : decode cX3_readTerm 66 = .ok (.iload_n 1, 1) := by decide +kernel
theorem dX3_readTerm_67 : decode cX3_readTerm 67 = .ok (.invokevirtual 108, 3) := by decide +kernel
theorem dX3_readTerm_70 : decode cX3_readTerm 70 = .ok (.invokevirtual 95, 3) := by decide +kernel
theorem dX3_readTerm_73 : decode cX3_readTerm 73 = .ok (.istore_n 2, 1) := by decide +kernel
theorem dX3_readTerm_74 : decode cX3_readTerm 74 = .ok (.iinc 3 1, 3) := by decide +kernel
theorem dX3_readTerm_77 : decode cX3_readTerm 77 = .ok (.goto (-69), 3) := by decide +kernel
theorem dX3_readTerm_80 : decode cX3_readTerm 80 = .ok (.iload_n 2, 1) := by decide +kernel
theorem dX3_readTerm_81 : decode cX3_readTerm 81 = .ok (.ireturn, 1) := by decide +kernel
theorem dX3_readFactor_0 : decode cX3_readFactor 0 = .ok (.aload_n 0, 1) := by decide +kernel
theorem dX3_readFactor_1 : decode cX3_readFactor 1 = .ok (.invokevirtual 51, 3) := by decide +kernel
theorem dX3_readFactor_4 : decode cX3_readFactor 4 = .ok (.istore_n 2, 1) := by decide +kernel
theorem dX3_readFactor_5 : decode cX3_readFactor 5 = .ok (.iload_n 2, 1) := by decide +kernel
theorem dX3_readFactor_6 : decode cX3_readFactor 6 = .ok (.invokestatic 111, 3) := by decide +kernel
theorem dX3_readFactor_9 : decode cX3_readFactor 9 = .ok (.ifCond .eq 20, 3) := by decide +kernel
theorem dX3_readFactor_12 : decode cX3_readFactor 12 = .ok (.aload_n 0, 1) := by decide +kernel
theorem dX3_readFactor_13 : decode cX3_readFactor 13 = .ok (.getfield 19, 3) := by decide +kernel
theorem dX3_readFactor_16 : decode cX3_readFactor 16 = .ok (.bipush 48, 2) := by decide +kernel
theorem dX3_readFactor_18 : decode cX3_readFactor 18 = .ok (.aload_n 0, 1) := by decide +kernel
theorem dX3_readFactor_19 : decode cX3_readFactor 19 = .ok (.bipush 9, 2) := by decide +kernel
theorem dX3_readFactor_21 : decode cX3_readFactor 21 = .ok (.invokevirtual 80, 3) := by decide +kernel
theorem dX3_readFactor_24 : decode cX3_readFactor 24 = .ok (.iconst 0, 1) := by decide +kernel
theorem dX3_readFactor_25 : decode cX3_readFactor 25 = .ok (.invokevirtual 114, 3) := by decide +kernel
theorem dX3_readFactor_28 : decode cX3_readFactor 28 = .ok (.ireturn, 1) := by decide +kernel
theorem dX3_readFactor_29 : decode cX3_readFactor 29 = .ok (.iload_n 2, 1) := by decide +kernel
theorem dX3_readFactor_30 : decode cX3_readFactor 30 = .ok (.bipush 45, 2) := by decide +kernel
theorem dX3_readFactor_32 : decode cX3_readFactor 32 = .ok (.if_icmp .eq 15, 3) := by decide +kernel
theorem dX3_readFactor_35 : decode cX3_readFactor 35 = .ok (.iload_n 2, 1) := by decide +kernel
theorem dX3_readFactor_36 : decode cX3_readFactor 36 = .ok (.bipush 40, 2) := by decide +kernel
theorem dX3_readFactor_38 : decode cX3_readFactor 38 = .ok (.if_icmp .eq 9, 3) := by decide +kernel
theorem dX3_readFactor_41 : decode cX3_readFactor 41 = .ok (.aload_n 0, 1) := by decide +kernel
theorem dX3_readFactor_42 : decode cX3_readFactor 42 = .ok (.iload_n 1, 1) := by decide +kernel
theorem dX3_readFactor_43 : decode cX3_readFactor 43 = .ok (.invokevirtual 117, 3) := by decide +kernel
theorem dX3_readFactor_46 : decode cX3_readFactor 46 = .ok (.ireturn, 1) := by decide +kernel
theorem dX3_readFactor_47 : decode cX3_readFactor 47 = .ok (.iload_n 1, 1) := by decide +kernel
theorem dX3_readFactor_48 : decode cX3_readFactor 48 = .ok (.bipush 12, 2) := by decide +kernel
theorem dX3_readFactor_50 : decode cX3_readFactor 50 = .ok (.if_icmp .lt 5, 3) := by decide +kernel
theorem dX3_readFactor_53 : decode cX3_readFactor 53 = .ok (.iconst (-1), 1) := by decide +kernel
theorem dX3_readFactor_54 : decode cX3_readFactor 54 = .ok (.ireturn, 1) := by decide +kernel
theorem dX3_readFactor_55 : decode cX3_readFactor 55 = .ok (.aload_n 0, 1) := by decide +kernel
theorem dX3_readFactor_56 : decode cX3_readFactor 56 = .ok (.dup, 1) := by decide +kernel
theorem dX3_readFactor_57 : decode cX3_readFactor 57 = .ok (.getfield 9, 3) := by decide +kernel
theorem dX3_readFactor_60 : decode cX3_readFactor 60 = .ok (.iconst 1, 1) := by decide +kernel
theorem dX3_readFactor_61 : decode cX3_readFactor 61 = .ok (.iadd, 1) := by decide +kernel
theorem dX3_readFactor_62 : decode cX3_readFactor 62 = .ok (.putfield 9, 3) := by decide +kernel
theorem dX3_readFactor_65 : decode cX3_readFactor 65 = .ok (.iload_n 2, 1) := by decide +kernel
theorem dX3_readFactor_66 : decode cX3_readFactor 66 = .ok (.bipush 45, 2) := by decide +kernel
theorem dX3_readFactor_68 : decode cX3_readFactor 68 = .ok (.if_icmp .ne 23, 3) := by decide +kernel
theorem dX3_readFactor_71 : decode cX3_readFactor 71 = .ok (.aload_n 0, 1) := by decide +kernel
theorem dX3_readFactor_72 : decode cX3_readFactor 72 = .ok (.iload_n 1, 1) := by decide +kernel
theorem dX3_readFactor_73 : decode cX3_readFactor 73 = .ok (.iconst 1, 1) := by decide +kernel
theorem dX3_readFactor_74 : decode cX3_readFactor 74 = .ok (.iadd, 1) := by decide +kernel
theorem dX3_readFactor_75 : decode cX3_readFactor 75 = .ok (.invokevirtual 108, 3) := by decide +kernel
theorem dX3_readFactor_78 : decode cX3_readFactor 78 = .ok (.istore_n 3, 1) := by decide +kernel
theorem dX3_readFactor_79 : decode cX3_readFactor 79 = .ok (.aload_n 0, 1) := by decide +kernel
theorem dX3_readFactor_80 : decode cX3_readFactor 80 = .ok (.getfield 19, 3) := by decide +kernel
theorem dX3_readFactor_83 : decode cX3_readFactor 83 = .ok (.bipush 95, 2) := by decide +kernel
theorem dX3_readFactor_85 : decode cX3_readFactor 85 = .ok (.iload_n 3, 1) := by decide +kernel
theorem dX3_readFactor_86 : decode cX3_readFactor 86 = .ok (.iload_n 3, 1) := by decide +kernel
theorem dX3_readFactor_87 : decode cX3_readFactor 87 = .ok (.invokevirtual 95, 3) := by decide +kernel
theorem dX3_readFactor_90 : decode cX3_readFactor 90 = .ok (.ireturn, 1) := by decide +kernel
theorem dX3_readFactor_91 : decode cX3_readFactor 91 = .ok (.aload_n 0, 1) := by decide +kernel
theorem dX3_readFactor_92 : decode cX3_readFactor 92 = .ok (.iload_n 1, 1) := by decide +kernel
theorem dX3_readFactor_93 : decode cX3_readFactor 93 = .ok (.iconst 1, 1) := by decide +kernel
theorem dX3_readFactor_94 : decode cX3_readFactor 94 = .ok (.iadd, 1) := by decide +kernel
theorem dX3_readFactor_95 : decode cX3_readFactor 95 = .ok (.invokevirtual 74, 3) := by decide +kernel
theorem dX3_readFactor_98 : decode cX3_readFactor 98 = .ok (.istore_n 3, 1) := by decide +kernel
theorem dX3_readFactor_99 : decode cX3_readFactor 99 = .ok (.iload_n 3, 1) := by decide +kernel
theorem dX3_readFactor_100 : decode cX3_readFactor 100 = .ok (.iconst (-1), 1) := by decide +kernel
theorem dX3_readFactor_101 : decode cX3_readFactor 101 = .ok (.if_icmp .eq 16, 3) := by decide +kernel
theorem dX3_readFactor_104 : decode cX3_readFactor 104 = .ok (.aload_n 0, 1) := by decide +kernel
theorem dX3_readFactor_105 : decode cX3_readFactor 105 = .ok (.bipush 41, 2) := by decide +kernel
theorem dX3_readFactor_107 : decode cX3_readFactor 107 = .ok (.invokevirtual 32, 3) := by decide +kernel
theorem dX3_readFactor_110 : decode cX3_readFactor 110 = .ok (.ifCond .eq 7, 3) := by decide +kernel
theorem dX3_readFactor_113 : decode cX3_readFactor 113 = .ok (.iload_n 3, 1) := by decide +kernel
theorem dX3_readFactor_114 : decode cX3_readFactor 114 = .ok (.goto 4, 3) := by decide +kernel
theorem dX3_readFactor_117 : decode cX3_readFactor 117 = .ok (.iconst (-1), 1) := by decide +kernel
theorem dX3_readFactor_118 : decode cX3_readFactor 118 = .ok (.ireturn, 1) := by decide +kernel
theorem dX3_readPath_0 : decode cX3_readPath 0 = .ok (.iconst 0, 1) := by decide +kernel
theorem dX3_readPath_1 : decode cX3_readPath 1 = .ok (.istore_n 2, 1) := by decide +kernel
theorem dX3_readPath_2 : decode cX3_readPath 2 = .ok (.iconst 0, 1) := by decide +kernel
theorem dX3_readPath_3 : decode cX3_readPath 3 = .ok (.istore_n 3, 1) := by decide +kernel
theorem dX3_readPath_4 : decode cX3_readPath 4 = .ok (.iload_n 3, 1) := by decide +kernel
theorem dX3_readPath_5 : decode cX3_readPath 5 = .ok (.bipush 80, 2) := by decide +kernel
theorem dX3_readPath_7 : decode cX3_readPath 7 = .ok (.if_icmp .ge 32, 3) := by decide +kernel
theorem dX3_readPath_10 : decode cX3_readPath 10 = .ok (.aload_n 0, 1) := by decide +kernel
theorem dX3_readPath_11 : decode cX3_readPath 11 = .ok (.bipush 114, 2) := by decide +kernel
theorem dX3_readPath_13 : decode cX3_readPath 13 = .ok (.invokevirtual 32, 3) := by decide +kernel
theorem dX3_readPath_16 : decode cX3_readPath 16 = .ok (.ifCond .eq 23, 3) := by decide +kernel
theorem dX3_readPath_19 : decode cX3_readPath 19 = .ok (.aload_n 0, 1) := by decide +kernel
theorem dX3_readPath_20 : decode cX3_readPath 20 = .ok (.bipush 46, 2) := by decide +kernel
theorem dX3_readPath_22 : decode cX3_readPath 22 = .ok (.invokevirtual 32, 3) := by decide +kernel
theorem dX3_readPath_25 : decode cX3_readPath 25 = .ok (.ifCond .ne 5, 3) := by decide +kernel
theorem dX3_readPath_28 : decode cX3_readPath 28 = .ok (.iconst (-1), 1) := by decide +kernel
theorem dX3_readPath_29 : decode cX3_readPath 29 = .ok (.ireturn, 1) := by decide +kernel
theorem dX3_readPath_30 : decode cX3_readPath 30 = .ok (.iinc 2 1, 3) := by decide +kernel
theorem dX3_readPath_33 : decode cX3_readPath 33 = .ok (.iinc 3 1, 3) := by decide +kernel
theorem dX3_readPath_36 : decode cX3_readPath 36 = .ok (.goto (-32), 3) := by decide +kernel
theorem dX3_readPath_39 : decode cX3_readPath 39 = .ok (.aload_n 0, 1) := by decide +kernel
theorem dX3_readPath_40 : decode cX3_readPath 40 = .ok (.invokevirtual 51, 3) := by decide +kernel
theorem dX3_readPath_43 : decode cX3_readPath 43 = .ok (.istore_n 3, 1) := by decide +kernel
theorem dX3_readPath_44 : decode cX3_readPath 44 = .ok (.iload_n 3, 1) := by decide +kernel
theorem dX3_readPath_45 : decode cX3_readPath 45 = .ok (.bipush 116, 2) := by decide +kernel
theorem dX3_readPath_47 : decode cX3_readPath 47 = .ok (.if_icmp .ne 20, 3) := by decide +kernel
theorem dX3_readPath_50 : decode cX3_readPath 50 = .ok (.aload_n 0, 1) := by decide +kernel
theorem dX3_readPath_51 : decode cX3_readPath 51 = .ok (.dup, 1) := by decide +kernel
theorem dX3_readPath_52 : decode cX3_readPath 52 = .ok (.getfield 9, 3) := by decide +kernel
theorem dX3_readPath_55 : decode cX3_readPath 55 = .ok (.iconst 1, 1) := by decide +kernel
theorem dX3_readPath_56 : decode cX3_readPath 56 = .ok (.iadd, 1) := by decide +kernel
theorem dX3_readPath_57 : decode cX3_readPath 57 = .ok (.putfield 9, 3) := by decide +kernel
theorem dX3_readPath_60 : decode cX3_readPath 60 = .ok (.aload_n 0, 1) := by decide +kernel
theorem dX3_readPath_61 : decode cX3_readPath 61 = .ok (.iload_n 2, 1) := by decide +kernel
theorem dX3_readPath_62 : decode cX3_readPath 62 = .ok (.iload_n 1, 1) := by decide +kernel
theorem dX3_readPath_63 : decode cX3_readPath 63 = .ok (.invokevirtual 120, 3) := by decide +kernel
theorem dX3_readPath_66 : decode cX3_readPath 66 = .ok (.ireturn, 1) := by decide +kernel
theorem dX3_readPath_67 : decode cX3_readPath 67 = .ok (.iload_n 3, 1) := by decide +kernel
theorem dX3_readPath_68 : decode cX3_readPath 68 = .ok (.bipush 97, 2) := by decide +kernel
theorem dX3_readPath_70 : decode cX3_readPath 70 = .ok (.if_icmp .eq 29, 3) := by decide +kernel
theorem dX3_readPath_73 : decode cX3_readPath 73 = .ok (.iload_n 3, 1) := by decide +kernel
theorem dX3_readPath_74 : decode cX3_readPath 74 = .ok (.bipush 98, 2) := by decide +kernel
theorem dX3_readPath_76 : decode cX3_readPath 76 = .ok (.if_icmp .eq 23, 3) := by decide +kernel
theorem dX3_readPath_79 : decode cX3_readPath 79 = .ok (.iload_n 3, 1) := by decide +kernel
theorem dX3_readPath_80 : decode cX3_readPath 80 = .ok (.bipush 99, 2) := by decide +kernel
theorem dX3_readPath_82 : decode cX3_readPath 82 = .ok (.if_icmp .eq 17, 3) := by decide +kernel
theorem dX3_readPath_85 : decode cX3_readPath 85 = .ok (.iload_n 3, 1) := by decide +kernel
theorem dX3_readPath_86 : decode cX3_readPath 86 = .ok (.bipush 110, 2) := by decide +kernel
theorem dX3_readPath_88 : decode cX3_readPath 88 = .ok (.if_icmp .eq 11, 3) := by decide +kernel
theorem dX3_readPath_91 : decode cX3_readPath 91 = .ok (.iload_n 3, 1) := by decide +kernel
theorem dX3_readPath_92 : decode cX3_readPath 92 = .ok (.bipush 105, 2) := by decide +kernel
theorem dX3_readPath_94 : decode cX3_readPath 94 = .ok (.if_icmp .eq 5, 3) := by decide +kernel
theorem dX3_readPath_97 : decode cX3_readPath 97 = .ok (.iconst (-1), 1) := by decide +kernel
theorem dX3_readPath_98 : decode cX3_readPath 98 = .ok (.ireturn, 1) := by decide +kernel
theorem dX3_readPath_99 : decode cX3_readPath 99 = .ok (.aload_n 0, 1) := by decide +kernel
theorem dX3_readPath_100 : decode cX3_readPath 100 = .ok (.dup, 1) := by decide +kernel
theorem dX3_readPath_101 : decode cX3_readPath 101 = .ok (.getfield 9, 3) := by decide +kernel
theorem dX3_readPath_104 : decode cX3_readPath 104 = .ok (.iconst 1, 1) := by decide +kernel
theorem dX3_readPath_105 : decode cX3_readPath 105 = .ok (.iadd, 1) := by decide +kernel
theorem dX3_readPath_106 : decode cX3_readPath 106 = .ok (.putfield 9, 3) := by decide +kernel
theorem dX3_readPath_109 : decode cX3_readPath 109 = .ok (.aload_n 0, 1) := by decide +kernel
theorem dX3_readPath_110 : decode cX3_readPath 110 = .ok (.getfield 19, 3) := by decide +kernel
theorem dX3_readPath_113 : decode cX3_readPath 113 = .ok (.iload_n 3, 1) := by decide +kernel
theorem dX3_readPath_114 : decode cX3_readPath 114 = .ok (.iload_n 2, 1) := by decide +kernel
theorem dX3_readPath_115 : decode cX3_readPath 115 = .ok (.iconst (-1), 1) := by decide +kernel
theorem dX3_readPath_116 : decode cX3_readPath 116 = .ok (.invokevirtual 114, 3) := by decide +kernel
theorem dX3_readPath_119 : decode cX3_readPath 119 = .ok (.ireturn, 1) := by decide +kernel
theorem dX3_readItem_0 : decode cX3_readItem 0 = .ok (.iload_n 2, 1) := by decide +kernel
theorem dX3_readItem_1 : decode cX3_readItem 1 = .ok (.bipush 12, 2) := by decide +kernel
theorem dX3_readItem_3 : decode cX3_readItem 3 = .ok (.if_icmp .ge 12, 3) := by decide +kernel
theorem dX3_readItem_6 : decode cX3_readItem 6 = .ok (.aload_n 0, 1) := by decide +kernel
theorem dX3_readItem_7 : decode cX3_readItem 7 = .ok (.bipush 91, 2) := by decide +kernel
theorem dX3_readItem_9 : decode cX3_readItem 9 = .ok (.invokevirtual 32, 3) := by decide +kernel
theorem dX3_readItem_12 : decode cX3_readItem 12 = .ok (.ifCond .ne 5, 3) := by decide +kernel
theorem dX3_readItem_15 : decode cX3_readItem 15 = .ok (.iconst (-1), 1) := by decide +kernel
theorem dX3_readItem_16 : decode cX3_readItem 16 = .ok (.ireturn, 1) := by decide +kernel
theorem dX3_readItem_17 : decode cX3_readItem 17 = .ok (.aload_n 0, 1) := by decide +kernel
theorem dX3_readItem_18 : decode cX3_readItem 18 = .ok (.iload_n 2, 1) := by decide +kernel
theorem dX3_readItem_19 : decode cX3_readItem 19 = .ok (.iconst 1, 1) := by decide +kernel
theorem dX3_readItem_20 : decode cX3_readItem 20 = .ok (.iadd, 1) := by decide +kernel
theorem dX3_readItem_21 : decode cX3_readItem 21 = .ok (.invokevirtual 74, 3) := by decide +kernel
theorem dX3_readItem_24 : decode cX3_readItem 24 = .ok (.istore_n 3, 1) := by decide +kernel
theorem dX3_readItem_25 : decode cX3_readItem 25 = .ok (.iload_n 3, 1) := by decide +kernel
theorem dX3_readItem_26 : decode cX3_readItem 26 = .ok (.iconst (-1), 1) := by decide +kernel
theorem dX3_readItem_27 : decode cX3_readItem 27 = .ok (.if_icmp .eq 26, 3) := by decide +kernel
theorem dX3_readItem_30 : decode cX3_readItem 30 = .ok (.aload_n 0, 1) := by decide +kernel
theorem dX3_readItem_31 : decode cX3_readItem 31 = .ok (.bipush 93, 2) := by decide +kernel
theorem dX3_readItem_33 : decode cX3_readItem 33 = .ok (.invokevirtual 32, 3) := by decide +kernel
theorem dX3_readItem_36 : decode cX3_readItem 36 = .ok (.ifCond .eq 17, 3) := by decide +kernel
theorem dX3_readItem_39 : decode cX3_readItem 39 = .ok (.aload_n 0, 1) := by decide +kernel
theorem dX3_readItem_40 : decode cX3_readItem 40 = .ok (.getfield 19, 3) := by decide +kernel
theorem dX3_readItem_43 : decode cX3_readItem 43 = .ok (.bipush 116, 2) := by decide +kernel
theorem dX3_readItem_45 : decode cX3_readItem 45 = .ok (.iload_n 1, 1) := by decide +kernel
theorem dX3_readItem_46 : decode cX3_readItem 46 = .ok (.iload_n 3, 1) := by decide +kernel
theorem dX3_readItem_47 : decode cX3_readItem 47 = .ok (.invokevirtual 114, 3) := by decide +kernel
theorem dX3_readItem_50 : decode cX3_readItem 50 = .ok (.goto 4, 3) := by decide +kernel
theorem dX3_readItem_53 : decode cX3_readItem 53 = .ok (.iconst (-1), 1) := by decide +kernel
theorem dX3_readItem_54 : decode cX3_readItem 54 = .ok (.ireturn, 1) := by decide +kernel
theorem dX3_readDigits_0 : decode cX3_readDigits 0 = .ok (.iconst 0, 1) := by decide +kernel
theorem dX3_readDigits_1 : decode cX3_readDigits 1 = .ok (.istore_n 2, 1) := by decide +kernel
theorem dX3_readDigits_2 : decode cX3_readDigits 2 = .ok (.iconst 0, 1) := by decide +kernel
theorem dX3_readDigits_3 : decode cX3_readDigits 3 = .ok (.istore_n 3, 1) := by decide +kernel
theorem dX3_readDigits_4 : decode cX3_readDigits 4 = .ok (.iload_n 3, 1) := by decide +kernel
theorem dX3_readDigits_5 : decode cX3_readDigits 5 = .ok (.iload_n 1, 1) := by decide +kernel
theorem dX3_readDigits_6 : decode cX3_readDigits 6 = .ok (.if_icmp .ge 42, 3) := by decide +kernel
theorem dX3_readDigits_9 : decode cX3_readDigits 9 = .ok (.aload_n 0, 1) := by decide +kernel
theorem dX3_readDigits_10 : decode cX3_readDigits 10 = .ok (.invokevirtual 51, 3) := by decide +kernel
theorem dX3_readDigits_13 : decode cX3_readDigits 13 = .ok (.invokestatic 111, 3) := by decide +kernel
theorem dX3_readDigits_16 : decode cX3_readDigits 16 = .ok (.ifCond .eq 32, 3) := by decide +kernel
theorem dX3_readDigits_19 : decode cX3_readDigits 19 = .ok (.iload_n 2, 1) := by decide +kernel
theorem dX3_readDigits_20 : decode cX3_readDigits 20 = .ok (.bipush 10, 2) := by decide +kernel
theorem dX3_readDigits_22 : decode cX3_readDigits 22 = .ok (.imul, 1) := by decide +kernel
theorem dX3_readDigits_23 : decode cX3_readDigits 23 = .ok (.aload_n 0, 1) := by decide +kernel
theorem dX3_readDigits_24 : decode cX3_readDigits 24 = .ok (.invokevirtual 51, 3) := by decide +kernel
theorem dX3_readDigits_27 : decode cX3_readDigits 27 = .ok (.bipush 48, 2) := by decide +kernel
theorem dX3_readDigits_29 : decode cX3_readDigits 29 = .ok (.isub, 1) := by decide +kernel
theorem dX3_readDigits_30 : decode cX3_readDigits 30 = .ok (.iadd, 1) := by decide +kernel
theorem dX3_readDigits_31 : decode cX3_readDigits 31 = .ok (.istore_n 2, 1) := by decide +kernel
theorem dX3_readDigits_32 : decode cX3_readDigits 32 = .ok (.aload_n 0, 1) := by decide +kernel
theorem dX3_readDigits_33 : decode cX3_readDigits 33 = .ok (.dup, 1) := by decide +kernel
theorem dX3_readDigits_34 : decode cX3_readDigits 34 = .ok (.getfield 9, 3) := by decide +kernel
theorem dX3_readDigits_37 : decode cX3_readDigits 37 = .ok (.iconst 1, 1) := by decide +kernel
theorem dX3_readDigits_38 : decode cX3_readDigits 38 = .ok (.iadd, 1) := by decide +kernel
theorem dX3_readDigits_39 : decode cX3_readDigits 39 = .ok (.putfield 9, 3) := by decide +kernel
theorem dX3_readDigits_42 : decode cX3_readDigits 42 = .ok (.iinc 3 1, 3) := by decide +kernel
theorem dX3_readDigits_45 : decode cX3_readDigits 45 = .ok (.goto (-41), 3) := by decide +kernel
theorem dX3_readDigits_48 : decode cX3_readDigits 48 = .ok (.iload_n 2, 1) := by decide +kernel
theorem dX3_readDigits_49 : decode cX3_readDigits 49 = .ok (.ireturn, 1) := by decide +kernel
theorem dX4_init_0 : decode cX4_init 0 = .ok (.aload_n 0, 1) := by decide +kernel
theorem dX4_init_1 : decode cX4_init 1 = .ok (.invokespecial 3, 3) := by decide +kernel
theorem dX4_init_4 : decode cX4_init 4 = .ok (.aload_n 0, 1) := by decide +kernel
theorem dX4_init_5 : decode cX4_init 5 = .ok (.bipush 60, 2) := by decide +kernel
theorem dX4_init_7 : decode cX4_init 7 = .ok (.newarray .boolean, 2) := by decide +kernel
theorem dX4_init_9 : decode cX4_init 9 = .ok (.putfield 9, 3) := by decide +kernel
theorem dX4_init_12 : decode cX4_init 12 = .ok (.aload_n 0, 1) := by decide +kernel
theorem dX4_init_13 : decode cX4_init 13 = .ok (.bipush 60, 2) := by decide +kernel
theorem dX4_init_15 : decode cX4_init 15 = .ok (.newarray .int, 2) := by decide +kernel
theorem dX4_init_17 : decode cX4_init 17 = .ok (.putfield 15, 3) := by decide +kernel
theorem dX4_init_20 : decode cX4_init 20 = .ok (.aload_n 0, 1) := by decide +kernel
theorem dX4_init_21 : decode cX4_init 21 = .ok (.bipush 60, 2) := by decide +kernel
theorem dX4_init_23 : decode cX4_init 23 = .ok (.newarray .int, 2) := by decide +kernel
theorem dX4_init_25 : decode cX4_init 25 = .ok (.putfield 19, 3) := by decide +kernel
theorem dX4_init_28 : decode cX4_init 28 = .ok (.aload_n 0, 1) := by decide +kernel
theorem dX4_init_29 : decode cX4_init 29 = .ok (.bipush 60, 2) := by decide +kernel
theorem dX4_init_31 : decode cX4_init 31 = .ok (.newarray .int, 2) := by decide +kernel
theorem dX4_init_33 : decode cX4_init 33 = .ok (.putfield 22, 3) := by decide +kernel
theorem dX4_init_36 : decode cX4_init 36 = .ok (.aload_n 0, 1) := by decide +kernel
theorem dX4_init_37 : decode cX4_init 37 = .ok (.sipush 180, 3) := by decide +kernel
theorem dX4_init_40 : decode cX4_init 40 = .ok (.newarray .long, 2) := by decide +kernel
theorem dX4_init_42 : decode cX4_init 42 = .ok (.putfield 25, 3) := by decide +kernel
theorem dX4_init_45 : decode cX4_init 45 = .ok (.aload_n 0, 1) := by decide +kernel
theorem dX4_init_46 : decode cX4_init 46 = .ok (.sipush 480, 3) := by decide +kernel
theorem dX4_init_49 : decode cX4_init 49 = .ok (.newarray .long, 2) := by decide +kernel
theorem dX4_init_51 : decode cX4_init 51 = .ok (.putfield 29, 3) := by decide +kernel
theorem dX4_init_54 : decode cX4_init 54 = .ok (.aload_n 0, 1) := by decide +kernel
theorem dX4_init_55 : decode cX4_init 55 = .ok (.iconst 0, 1) := by decide +kernel
theorem dX4_init_56 : decode cX4_init 56 = .ok (.putfield 32, 3) := by decide +kernel
theorem dX4_init_59 : decode cX4_init 59 = .ok (.return_, 1) := by decide +kernel
theorem dX4_make_0 : decode cX4_make 0 = .ok (.iload_n 1, 1) := by decide +kernel
theorem dX4_make_1 : decode cX4_make 1 = .ok (.ifCond .lt 17, 3) := by decide +kernel
theorem dX4_make_4 : decode cX4_make 4 = .ok (.iload_n 1, 1) := by decide +kernel
theorem dX4_make_5 : decode cX4_make 5 = .ok (.iconst 4, 1) := by decide +kernel
theorem dX4_make_6 : decode cX4_make 6 = .ok (.if_icmp .ge 12, 3) := by decide +kernel
theorem dX4_make_9 : decode cX4_make 9 = .ok (.aload_n 0, 1) := by decide +kernel
theorem dX4_make_10 : decode cX4_make 10 = .ok (.getfield 32, 3) := by decide +kernel
theorem dX4_make_13 : decode cX4_make 13 = .ok (.bipush 60, 2) := by decide +kernel
theorem dX4_make_15 : decode cX4_make 15 = .ok (.if_icmp .lt 5, 3) := by decide +kernel
theorem dX4_make_18 : decode cX4_make 18 = .ok (.iconst (-1), 1) := by decide +kernel
theorem dX4_make_19 : decode cX4_make 19 = .ok (.ireturn, 1) := by decide +kernel
theorem dX4_make_20 : decode cX4_make 20 = .ok (.aload_n 0, 1) := by decide +kernel
theorem dX4_make_21 : decode cX4_make 21 = .ok (.getfield 32, 3) := by decide +kernel
theorem dX4_make_24 : decode cX4_make 24 = .ok (.istore_n 2, 1) := by decide +kernel
theorem dX4_make_25 : decode cX4_make 25 = .ok (.aload_n 0, 1) := by decide +kernel
theorem dX4_make_26 : decode cX4_make 26 = .ok (.getfield 9, 3) := by decide +kernel
theorem dX4_make_29 : decode cX4_make 29 = .ok (.iload_n 2, 1) := by decide +kernel
theorem dX4_make_30 : decode cX4_make 30 = .ok (.iconst 1, 1) := by decide +kernel
theorem dX4_make_31 : decode cX4_make 31 = .ok (.bastore, 1) := by decide +kernel
theorem dX4_make_32 : decode cX4_make 32 = .ok (.aload_n 0, 1) := by decide +kernel
theorem dX4_make_33 : decode cX4_make 33 = .ok (.getfield 15, 3) := by decide +kernel
theorem dX4_make_36 : decode cX4_make 36 = .ok (.iload_n 2, 1) := by decide +kernel
theorem dX4_make_37 : decode cX4_make 37 = .ok (.iload_n 1, 1) := by decide +kernel
theorem dX4_make_38 : decode cX4_make 38 = .ok (.iastore, 1) := by decide +kernel
theorem dX4_make_39 : decode cX4_make 39 = .ok (.aload_n 0, 1) := by decide +kernel
theorem dX4_make_40 : decode cX4_make 40 = .ok (.getfield 19, 3) := by decide +kernel
theorem dX4_make_43 : decode cX4_make 43 = .ok (.iload_n 2, 1) := by decide +kernel
theorem dX4_make_44 : decode cX4_make 44 = .ok (.iconst (-1), 1) := by decide +kernel
theorem dX4_make_45 : decode cX4_make 45 = .ok (.iastore, 1) := by decide +kernel
theorem dX4_make_46 : decode cX4_make 46 = .ok (.aload_n 0, 1) := by decide +kernel
theorem dX4_make_47 : decode cX4_make 47 = .ok (.dup, 1) := by decide +kernel
theorem dX4_make_48 : decode cX4_make 48 = .ok (.getfield 32, 3) := by decide +kernel
theorem dX4_make_51 : decode cX4_make 51 = .ok (.iconst 1, 1) := by decide +kernel
theorem dX4_make_52 : decode cX4_make 52 = .ok (.iadd, 1) := by decide +kernel
theorem dX4_make_53 : decode cX4_make 53 = .ok (.putfield 32, 3) := by decide +kernel
theorem dX4_make_56 : decode cX4_make 56 = .ok (.iload_n 2, 1) := by decide +kernel
theorem dX4_make_57 : decode cX4_make 57 = .ok (.ireturn, 1) := by decide +kernel
theorem dX4_setPart_0 : decode cX4_setPart 0 = .ok (.aload_n 0, 1) := by decide +kernel
theorem dX4_setPart_1 : decode cX4_setPart 1 = .ok (.iload_n 1, 1) := by decide +kernel
theorem dX4_setPart_2 : decode cX4_setPart 2 = .ok (.invokevirtual 36, 3) := by decide +kernel
theorem dX4_setPart_5 : decode cX4_setPart 5 = .ok (.ifCond .eq 12, 3) := by decide +kernel
theorem dX4_setPart_8 : decode cX4_setPart 8 = .ok (.iload_n 2, 1) := by decide +kernel
theorem dX4_setPart_9 : decode cX4_setPart 9 = .ok (.ifCond .lt 8, 3) := by decide +kernel
theorem dX4_setPart_12 : decode cX4_setPart 12 = .ok (.iload_n 2, 1) := by decide +kernel
theorem dX4_setPart_13 : decode cX4_setPart 13 = .ok (.iconst 3, 1) := by decide +kernel
theorem dX4_setPart_14 : decode cX4_setPart 14 = .ok (.if_icmp .lt 5, 3) := by decide +kernel
theorem dX4_setPart_17 : decode cX4_setPart 17 = .ok (.iconst 0, 1) := by decide +kernel
theorem dX4_setPart_18 : decode cX4_setPart 18 = .ok (.ireturn, 1) := by decide +kernel
theorem dX4_setPart_19 : decode cX4_setPart 19 = .ok (.aload_n 0, 1) := by decide +kernel
theorem dX4_setPart_20 : decode cX4_setPart 20 = .ok (.getfield 25, 3) := by decide +kernel
theorem dX4_setPart_23 : decode cX4_setPart 23 = .ok (.iload_n 1, 1) := by decide +kernel
theorem dX4_setPart_24 : decode cX4_setPart 24 = .ok (.iconst 3, 1) := by decide +kernel
theorem dX4_setPart_25 : decode cX4_setPart 25 = .ok (.imul, 1) := by decide +kernel
theorem dX4_setPart_26 : decode cX4_setPart 26 = .ok (.iload_n 2, 1) := by decide +kernel
theorem dX4_setPart_27 : decode cX4_setPart 27 = .ok (.iadd, 1) := by decide +kernel
theorem dX4_setPart_28 : decode cX4_setPart 28 = .ok (.lload_n 3, 1) := by decide +kernel
theorem dX4_setPart_29 : decode cX4_setPart 29 = .ok (.lastore, 1) := by decide +kernel
theorem dX4_setPart_30 : decode cX4_setPart 30 = .ok (.iconst 1, 1) := by decide +kernel
theorem dX4_setPart_31 : decode cX4_setPart 31 = .ok (.ireturn, 1) := by decide +kernel
theorem dX4_setReference_0 : decode cX4_setReference 0 = .ok (.aload_n 0, 1) := by decide +kernel
theorem dX4_setReference_1 : decode cX4_setReference 1 = .ok (.iload_n 1, 1) := by decide +kernel
theorem dX4_setReference_2 : decode cX4_setReference 2 = .ok (.invokevirtual 36, 3) := by decide +kernel
theorem dX4_setReference_5 : decode cX4_setReference 5 = .ok (.ifCond .eq 16, 3) := by decide +kernel
theorem dX4_setReference_8 : decode cX4_setReference 8 = .ok (.iload_n 2, 1) := by decide +kernel
theorem dX4_setReference_9 : decode cX4_setReference 9 = .ok (.iconst (-1), 1) := by decide +kernel
theorem dX4_setReference_10 : decode cX4_setReference 10 = .ok (.if_icmp .eq 13, 3) := by decide +kernel
theorem dX4_setReference_13 : decode cX4_setReference 13 = .ok (.aload_n 0, 1) := by decide +kernel
theorem dX4_setReference_14 : decode cX4_setReference 14 = .ok (.iload_n 2, 1) := by decide +kernel
theorem dX4_setReference_15 : decode cX4_setReference 15 = .ok (.invokevirtual 36, 3) := by decide +kernel
theorem dX4_setReference_18 : decode cX4_setReference 18 = .ok (.ifCond .ne 5, 3) := by decide +kernel
theorem dX4_setReference_21 : decode cX4_setReference 21 = .ok (.iconst 0, 1) := by decide +kernel
theorem dX4_setReference_22 : decode cX4_setReference 22 = .ok (.ireturn, 1) := by decide +kernel
theorem dX4_setReference_23 : decode cX4_setReference 23 = .ok (.aload_n 0, 1) := by decide +kernel
theorem dX4_setReference_24 : decode cX4_setReference 24 = .ok (.getfield 19, 3) := by decide +kernel
theorem dX4_setReference_27 : decode cX4_setReference 27 = .ok (.iload_n 1, 1) := by decide +kernel
theorem dX4_setReference_28 : decode cX4_setReference 28 = .ok (.iload_n 2, 1) := by decide +kernel
theorem dX4_setReference_29 : decode cX4_setReference 29 = .ok (.iastore, 1) := by decide +kernel
theorem dX4_setReference_30 : decode cX4_setReference 30 = .ok (.iconst 1, 1) := by decide +kernel
theorem dX4_setReference_31 : decode cX4_setReference 31 = .ok (.ireturn, 1) := by decide +kernel
theorem dX4_setLength_0 : decode cX4_setLength 0 = .ok (.aload_n 0, 1) := by decide +kernel
theorem dX4_setLength_1 : decode cX4_setLength 1 = .ok (.iload_n 1, 1) := by decide +kernel
theorem dX4_setLength_2 : decode cX4_setLength 2 = .ok (.invokevirtual 36, 3) := by decide +kernel
theorem dX4_setLength_5 : decode cX4_setLength 5 = .ok (.ifCond .eq 13, 3) := by decide +kernel
theorem dX4_setLength_8 : decode cX4_setLength 8 = .ok (.iload_n 2, 1) := by decide +kernel
theorem dX4_setLength_9 : decode cX4_setLength 9 = .ok (.ifCond .lt 9, 3) := by decide +kernel
theorem dX4_setLength_12 : decode cX4_setLength 12 = .ok (.iload_n 2, 1) := by decide +kernel
theorem dX4_setLength_13 : decode cX4_setLength 13 = .ok (.bipush 8, 2) := by decide +kernel
theorem dX4_setLength_15 : decode cX4_setLength 15 = .ok (.if_icmp .le 5, 3) := by decide +kernel
theorem dX4_setLength_18 : decode cX4_setLength 18 = .ok (.iconst 0, 1) := by decide +kernel
theorem dX4_setLength_19 : decode cX4_setLength 19 = .ok (.ireturn, 1) := by decide +kernel
theorem dX4_setLength_20 : decode cX4_setLength 20 = .ok (.iload_n 2, 1) := by decide +kernel
theorem dX4_setLength_21 : decode cX4_setLength 21 = .ok (.istore_n 3, 1) := by decide +kernel
theorem dX4_setLength_22 : decode cX4_setLength 22 = .ok (.iload_n 3, 1) := by decide +kernel
theorem dX4_setLength_23 : decode cX4_setLength 23 = .ok (.bipush 8, 2) := by decide +kernel
theorem dX4_setLength_25 : decode cX4_setLength 25 = .ok (.if_icmp .ge 21, 3) := by decide +kernel
theorem dX4_setLength_28 : decode cX4_setLength 28 = .ok (.aload_n 0, 1) := by decide +kernel
theorem dX4_setLength_29 : decode cX4_setLength 29 = .ok (.getfield 29, 3) := by decide +kernel
theorem dX4_setLength_32 : decode cX4_setLength 32 = .ok (.iload_n 1, 1) := by decide +kernel
theorem dX4_setLength_33 : decode cX4_setLength 33 = .ok (.bipush 8, 2) := by decide +kernel
theorem dX4_setLength_35 : decode cX4_setLength 35 = .ok (.imul, 1) := by decide +kernel
theorem dX4_setLength_36 : decode cX4_setLength 36 = .ok (.iload_n 3, 1) := by decide +kernel
theorem dX4_setLength_37 : decode cX4_setLength 37 = .ok (.iadd, 1) := by decide +kernel
theorem dX4_setLength_38 : decode cX4_setLength 38 = .ok (.lconst 0, 1) := by decide +kernel
theorem dX4_setLength_39 : decode cX4_setLength 39 = .ok (.lastore, 1) := by decide +kernel
theorem dX4_setLength_40 : decode cX4_setLength 40 = .ok (.iinc 3 1, 3) := by decide +kernel
theorem dX4_setLength_43 : decode cX4_setLength 43 = .ok (.goto (-21), 3) := by decide +kernel
theorem dX4_setLength_46 : decode cX4_setLength 46 = .ok (.aload_n 0, 1) := by decide +kernel
theorem dX4_setLength_47 : decode cX4_setLength 47 = .ok (.getfield 22, 3) := by decide +kernel
theorem dX4_setLength_50 : decode cX4_setLength 50 = .ok (.iload_n 1, 1) := by decide +kernel
theorem dX4_setLength_51 : decode cX4_setLength 51 = .ok (.iload_n 2, 1) := by decide +kernel
theorem dX4_setLength_52 : decode cX4_setLength 52 = .ok (.iastore, 1) := by decide +kernel
theorem dX4_setLength_53 : decode cX4_setLength 53 = .ok (.iconst 1, 1) := by decide +kernel
theorem dX4_setLength_54 : decode cX4_setLength 54 = .ok (.ireturn, 1) := by decide +kernel
theorem dX4_setItem_0 : decode cX4_setItem 0 = .ok (.aload_n 0, 1) := by decide +kernel
theorem dX4_setItem_1 : decode cX4_setItem 1 = .ok (.iload_n 1, 1) := by decide +kernel
theorem dX4_setItem_2 : decode cX4_setItem 2 = .ok (.iload_n 2, 1) := by decide +kernel
theorem dX4_setItem_3 : decode cX4_setItem 3 = .ok (.i2l, 1) := by decide +kernel
theorem dX4_setItem_4 : decode cX4_setItem 4 = .ok (.invokevirtual 40, 3) := by decide +kernel
theorem dX4_setItem_7 : decode cX4_setItem 7 = .ok (.ifCond .ne 5, 3) := by decide +kernel
theorem dX4_setItem_10 : decode cX4_setItem 10 = .ok (.iconst 0, 1) := by decide +kernel
theorem dX4_setItem_11 : decode cX4_setItem 11 = .ok (.ireturn, 1) := by decide +kernel
theorem dX4_setItem_12 : decode cX4_setItem 12 = .ok (.aload_n 0, 1) := by decide +kernel
theorem dX4_setItem_13 : decode cX4_setItem 13 = .ok (.getfield 29, 3) := by decide +kernel
theorem dX4_setItem_16 : decode cX4_setItem 16 = .ok (.iload_n 1, 1) := by decide +kernel
theorem dX4_setItem_17 : decode cX4_setItem 17 = .ok (.bipush 8, 2) := by decide +kernel
theorem dX4_setItem_19 : decode cX4_setItem 19 = .ok (.imul, 1) := by decide +kernel
theorem dX4_setItem_20 : decode cX4_setItem 20 = .ok (.iload_n 2, 1) := by decide +kernel
theorem dX4_setItem_21 : decode cX4_setItem 21 = .ok (.iadd, 1) := by decide +kernel
theorem dX4_setItem_22 : decode cX4_setItem 22 = .ok (.lload_n 3, 1) := by decide +kernel
theorem dX4_setItem_23 : decode cX4_setItem 23 = .ok (.lastore, 1) := by decide +kernel
theorem dX4_setItem_24 : decode cX4_setItem 24 = .ok (.iconst 1, 1) := by decide +kernel
theorem dX4_setItem_25 : decode cX4_setItem 25 = .ok (.ireturn, 1) := by decide +kernel
theorem dX4_remove_0 : decode cX4_remove 0 = .ok (.aload_n 0, 1) := by decide +kernel
theorem dX4_remove_1 : decode cX4_remove 1 = .ok (.iload_n 1, 1) := by decide +kernel
theorem dX4_remove_2 : decode cX4_remove 2 = .ok (.invokevirtual 36, 3) := by decide +kernel
theorem dX4_remove_5 : decode cX4_remove 5 = .ok (.ifCond .ne 5, 3) := by decide +kernel
theorem dX4_remove_8 : decode cX4_remove 8 = .ok (.iconst 0, 1) := by decide +kernel
theorem dX4_remove_9 : decode cX4_remove 9 = .ok (.ireturn, 1) := by decide +kernel
theorem dX4_remove_10 : decode cX4_remove 10 = .ok (.aload_n 0, 1) := by decide +kernel
theorem dX4_remove_11 : decode cX4_remove 11 = .ok (.getfield 9, 3) := by decide +kernel
theorem dX4_remove_14 : decode cX4_remove 14 = .ok (.iload_n 1, 1) := by decide +kernel
theorem dX4_remove_15 : decode cX4_remove 15 = .ok (.iconst 0, 1) := by decide +kernel
theorem dX4_remove_16 : decode cX4_remove 16 = .ok (.bastore, 1) := by decide +kernel
theorem dX4_remove_17 : decode cX4_remove 17 = .ok (.aload_n 0, 1) := by decide +kernel
theorem dX4_remove_18 : decode cX4_remove 18 = .ok (.getfield 22, 3) := by decide +kernel
theorem dX4_remove_21 : decode cX4_remove 21 = .ok (.iload_n 1, 1) := by decide +kernel
theorem dX4_remove_22 : decode cX4_remove 22 = .ok (.iconst 0, 1) := by decide +kernel
theorem dX4_remove_23 : decode cX4_remove 23 = .ok (.iastore, 1) := by decide +kernel
theorem dX4_remove_24 : decode cX4_remove 24 = .ok (.iconst 0, 1) := by decide +kernel
theorem dX4_remove_25 : decode cX4_remove 25 = .ok (.istore_n 2, 1) := by decide +kernel
theorem dX4_remove_26 : decode cX4_remove 26 = .ok (.iload_n 2, 1) := by decide +kernel
theorem dX4_remove_27 : decode cX4_remove 27 = .ok (.aload_n 0, 1) := by decide +kernel
theorem dX4_remove_28 : decode cX4_remove 28 = .ok (.getfield 32, 3) := by decide +kernel
theorem dX4_remove_31 : decode cX4_remove 31 = .ok (.if_icmp .ge 26, 3) := by decide +kernel
theorem dX4_remove_34 : decode cX4_remove 34 = .ok (.aload_n 0, 1) := by decide +kernel
theorem dX4_remove_35 : decode cX4_remove 35 = .ok (.getfield 19, 3) := by decide +kernel
theorem dX4_remove_38 : decode cX4_remove 38 = .ok (.iload_n 2, 1) := by decide +kernel
theorem dX4_remove_39 : decode cX4_remove 39 = .ok (.iaload, 1) := by decide +kernel
theorem dX4_remove_40 : decode cX4_remove 40 = .ok (.iload_n 1, 1) := by decide +kernel
theorem dX4_remove_41 : decode cX4_remove 41 = .ok (.if_icmp .ne 10, 3) := by decide +kernel
theorem dX4_remove_44 : decode cX4_remove 44 = .ok (.aload_n 0, 1) := by decide +kernel
theorem dX4_remove_45 : decode cX4_remove 45 = .ok (.getfield 19, 3) := by decide +kernel
theorem dX4_remove_48 : decode cX4_remove 48 = .ok (.iload_n 2, 1) := by decide +kernel
theorem dX4_remove_49 : decode cX4_remove 49 = .ok (.iconst (-1), 1) := by decide +kernel
theorem dX4_remove_50 : decode cX4_remove 50 = .ok (.iastore, 1) := by decide +kernel
theorem dX4_remove_51 : decode cX4_remove 51 = .ok (.iinc 2 1, 3) := by decide +kernel
theorem dX4_remove_54 : decode cX4_remove 54 = .ok (.goto (-28), 3) := by decide +kernel
theorem dX4_remove_57 : decode cX4_remove 57 = .ok (.iconst 1, 1) := by decide +kernel
theorem dX4_remove_58 : decode cX4_remove 58 = .ok (.ireturn, 1) := by decide +kernel
theorem dX4_madeCount_0 : decode cX4_madeCount 0 = .ok (.aload_n 0, 1) := by decide +kernel
theorem dX4_madeCount_1 : decode cX4_madeCount 1 = .ok (.getfield 32, 3) := by decide +kernel
theorem dX4_madeCount_4 : decode cX4_madeCount 4 = .ok (.ireturn, 1) := by decide +kernel
theorem dX4_isThere_0 : decode cX4_isThere 0 = .ok (.iload_n 1, 1) := by decide +kernel
theorem dX4_isThere_1 : decode cX4_isThere 1 = .ok (.ifCond .lt 24, 3) := by decide +kernel
theorem dX4_isThere_4 : decode cX4_isThere 4 = .ok (.iload_n 1, 1) := by decide +kernel
theorem dX4_isThere_5 : decode cX4_isThere 5 = .ok (.aload_n 0, 1) := by decide +kernel
theorem dX4_isThere_6 : decode cX4_isThere 6 = .ok (.getfield 32, 3) := by decide +kernel
theorem dX4_isThere_9 : decode cX4_isThere 9 = .ok (.if_icmp .ge 16, 3) := by decide +kernel
theorem dX4_isThere_12 : decode cX4_isThere 12 = .ok (.aload_n 0, 1) := by decide +kernel
theorem dX4_isThere_13 : decode cX4_isThere 13 = .ok (.getfield 9, 3) := by decide +kernel
theorem dX4_isThere_16 : decode cX4_isThere 16 = .ok (.iload_n 1, 1) := by decide +kernel
theorem dX4_isThere_17 : decode cX4_isThere 17 = .ok (.baload, 1) := by decide +kernel
theorem dX4_isThere_18 : decode cX4_isThere 18 = .ok (.ifCond .eq 7, 3) := by decide +kernel
theorem dX4_isThere_21 : decode cX4_isThere 21 = .ok (.iconst 1, 1) := by decide +kernel
theorem dX4_isThere_22 : decode cX4_isThere 22 = .ok (.goto 4, 3) := by decide +kernel
theorem dX4_isThere_25 : decode cX4_isThere 25 = .ok (.iconst 0, 1) := by decide +kernel
theorem dX4_isThere_26 : decode cX4_isThere 26 = .ok (.ireturn, 1) := by decide +kernel
theorem dX4_isOfKind_0 : decode cX4_isOfKind 0 = .ok (.aload_n 0, 1) := by decide +kernel
theorem dX4_isOfKind_1 : decode cX4_isOfKind 1 = .ok (.iload_n 1, 1) := by decide +kernel
theorem dX4_isOfKind_2 : decode cX4_isOfKind 2 = .ok (.invokevirtual 36, 3) := by decide +kernel
theorem dX4_isOfKind_5 : decode cX4_isOfKind 5 = .ok (.ifCond .eq 17, 3) := by decide +kernel
theorem dX4_isOfKind_8 : decode cX4_isOfKind 8 = .ok (.aload_n 0, 1) := by decide +kernel
theorem dX4_isOfKind_9 : decode cX4_isOfKind 9 = .ok (.getfield 15, 3) := by decide +kernel
theorem dX4_isOfKind_12 : decode cX4_isOfKind 12 = .ok (.iload_n 1, 1) := by decide +kernel
theorem dX4_isOfKind_13 : decode cX4_isOfKind 13 = .ok (.iaload, 1) := by decide +kernel
theorem dX4_isOfKind_14 : decode cX4_isOfKind 14 = .ok (.iload_n 2, 1) := by decide +kernel
theorem dX4_isOfKind_15 : decode cX4_isOfKind 15 = .ok (.if_icmp .ne 7, 3) := by decide +kernel
theorem dX4_isOfKind_18 : decode cX4_isOfKind 18 = .ok (.iconst 1, 1) := by decide +kernel
theorem dX4_isOfKind_19 : decode cX4_isOfKind 19 = .ok (.goto 4, 3) := by decide +kernel
theorem dX4_isOfKind_22 : decode cX4_isOfKind 22 = .ok (.iconst 0, 1) := by decide +kernel
theorem dX4_isOfKind_23 : decode cX4_isOfKind 23 = .ok (.ireturn, 1) := by decide +kernel
theorem dX4_hasItem_0 : decode cX4_hasItem 0 = .ok (.iload_n 1, 1) := by decide +kernel
theorem dX4_hasItem_1 : decode cX4_hasItem 1 = .ok (.ifCond .lt 33, 3) := by decide +kernel
theorem dX4_hasItem_4 : decode cX4_hasItem 4 = .ok (.iload_n 1, 1) := by decide +kernel
theorem dX4_hasItem_5 : decode cX4_hasItem 5 = .ok (.aload_n 0, 1) := by decide +kernel
theorem dX4_hasItem_6 : decode cX4_hasItem 6 = .ok (.getfield 32, 3) := by decide +kernel
theorem dX4_hasItem_9 : decode cX4_hasItem 9 = .ok (.if_icmp .ge 25, 3) := by decide +kernel
theorem dX4_hasItem_12 : decode cX4_hasItem 12 = .ok (.lload_n 2, 1) := by decide +kernel
theorem dX4_hasItem_13 : decode cX4_hasItem 13 = .ok (.lconst 0, 1) := by decide +kernel
theorem dX4_hasItem_14 : decode cX4_hasItem 14 = .ok (.lcmp, 1) := by decide +kernel
theorem dX4_hasItem_15 : decode cX4_hasItem 15 = .ok (.ifCond .lt 19, 3) := by decide +kernel
theorem dX4_hasItem_18 : decode cX4_hasItem 18 = .ok (.lload_n 2, 1) := by decide +kernel
theorem dX4_hasItem_19 : decode cX4_hasItem 19 = .ok (.aload_n 0, 1) := by decide +kernel
theorem dX4_hasItem_20 : decode cX4_hasItem 20 = .ok (.getfield 22, 3) := by decide +kernel
theorem dX4_hasItem_23 : decode cX4_hasItem 23 = .ok (.iload_n 1, 1) := by decide +kernel
theorem dX4_hasItem_24 : decode cX4_hasItem 24 = .ok (.iaload, 1) := by decide +kernel
theorem dX4_hasItem_25 : decode cX4_hasItem 25 = .ok (.i2l, 1) := by decide +kernel
theorem dX4_hasItem_26 : decode cX4_hasItem 26 = .ok (.lcmp, 1) := by decide +kernel
theorem dX4_hasItem_27 : decode cX4_hasItem 27 = .ok (.ifCond .ge 7, 3) := by decide +kernel
theorem dX4_hasItem_30 : decode cX4_hasItem 30 = .ok (.iconst 1, 1) := by decide +kernel
theorem dX4_hasItem_31 : decode cX4_hasItem 31 = .ok (.goto 4, 3) := by decide +kernel
theorem dX4_hasItem_34 : decode cX4_hasItem 34 = .ok (.iconst 0, 1) := by decide +kernel
theorem dX4_hasItem_35 : decode cX4_hasItem 35 = .ok (.ireturn, 1) := by decide +kernel
theorem dX4_kindOf_0 : decode cX4_kindOf 0 = .ok (.aload_n 0, 1) := by decide +kernel
theorem dX4_kindOf_1 : decode cX4_kindOf 1 = .ok (.iload_n 1, 1) := by decide +kernel
theorem dX4_kindOf_2 : decode cX4_kindOf 2 = .ok (.invokevirtual 36, 3) := by decide +kernel
theorem dX4_kindOf_5 : decode cX4_kindOf 5 = .ok (.ifCond .eq 12, 3) := by decide +kernel
theorem dX4_kindOf_8 : decode cX4_kindOf 8 = .ok (.aload_n 0, 1) := by decide +kernel
theorem dX4_kindOf_9 : decode cX4_kindOf 9 = .ok (.getfield 15, 3) := by decide +kernel
theorem dX4_kindOf_12 : decode cX4_kindOf 12 = .ok (.iload_n 1, 1) := by decide +kernel
theorem dX4_kindOf_13 : decode cX4_kindOf 13 = .ok (.iaload, 1) := by decide +kernel
theorem dX4_kindOf_14 : decode cX4_kindOf 14 = .ok (.goto 4, 3) := by decide +kernel
theorem dX4_kindOf_17 : decode cX4_kindOf 17 = .ok (.iconst (-1), 1) := by decide +kernel
theorem dX4_kindOf_18 : decode cX4_kindOf 18 = .ok (.ireturn, 1) := by decide +kernel
theorem dX4_partOf_0 : decode cX4_partOf 0 = .ok (.aload_n 0, 1) := by decide +kernel
theorem dX4_partOf_1 : decode cX4_partOf 1 = .ok (.iload_n 1, 1) := by decide +kernel
theorem dX4_partOf_2 : decode cX4_partOf 2 = .ok (.invokevirtual 36, 3) := by decide +kernel
theorem dX4_partOf_5 : decode cX4_partOf 5 = .ok (.ifCond .eq 16, 3) := by decide +kernel
theorem dX4_partOf_8 : decode cX4_partOf 8 = .ok (.iload_n 2, 1) := by decide +kernel
theorem dX4_partOf_9 : decode cX4_partOf 9 = .ok (.ifCond .lt 12, 3) := by decide +kernel
theorem dX4_partOf_12 : decode cX4_partOf 12 = .ok (.iload_n 2, 1) := by decide +kernel
theorem dX4_partOf_13 : decode cX4_partOf 13 = .ok (.iconst 3, 1) := by decide +kernel
theorem dX4_partOf_14 : decode cX4_partOf 14 = .ok (.if_icmp .ge 7, 3) := by decide +kernel
theorem dX4_partOf_17 : decode cX4_partOf 17 = .ok (.iconst 1, 1) := by decide +kernel
theorem dX4_partOf_18 : decode cX4_partOf 18 = .ok (.goto 4, 3) := by decide +kernel
theorem dX4_partOf_21 : decode cX4_partOf 21 = .ok (.iconst 0, 1) := by decide +kernel
theorem dX4_partOf_22 : decode cX4_partOf 22 = .ok (.istore_n 3, 1) := by decide +kernel
theorem dX4_partOf_23 : decode cX4_partOf 23 = .ok (.iload_n 3, 1) := by decide +kernel
theorem dX4_partOf_24 : decode cX4_partOf 24 = .ok (.ifCond .eq 16, 3) := by decide +kernel
theorem dX4_partOf_27 : decode cX4_partOf 27 = .ok (.aload_n 0, 1) := by decide +kernel
theorem dX4_partOf_28 : decode cX4_partOf 28 = .ok (.getfield 25, 3) := by decide +kernel
theorem dX4_partOf_31 : decode cX4_partOf 31 = .ok (.iload_n 1, 1) := by decide +kernel
theorem dX4_partOf_32 : decode cX4_partOf 32 = .ok (.iconst 3, 1) := by decide +kernel
theorem dX4_partOf_33 : decode cX4_partOf 33 = .ok (.imul, 1) := by decide +kernel
theorem dX4_partOf_34 : decode cX4_partOf 34 = .ok (.iload_n 2, 1) := by decide +kernel
theorem dX4_partOf_35 : decode cX4_partOf 35 = .ok (.iadd, 1) := by decide +kernel
theorem dX4_partOf_36 : decode cX4_partOf 36 = .ok (.laload, 1) := by decide +kernel
theorem dX4_partOf_37 : decode cX4_partOf 37 = .ok (.goto 4, 3) := by decide +kernel
theorem dX4_partOf_40 : decode cX4_partOf 40 = .ok (.lconst 0, 1) := by decide +kernel
theorem dX4_partOf_41 : decode cX4_partOf 41 = .ok (.lreturn, 1) := by decide +kernel
theorem dX4_referenceOf_0 : decode cX4_referenceOf 0 = .ok (.aload_n 0, 1) := by decide +kernel
theorem dX4_referenceOf_1 : decode cX4_referenceOf 1 = .ok (.iload_n 1, 1) := by decide +kernel
theorem dX4_referenceOf_2 : decode cX4_referenceOf 2 = .ok (.invokevirtual 36, 3) := by decide +kernel
theorem dX4_referenceOf_5 : decode cX4_referenceOf 5 = .ok (.ifCond .eq 12, 3) := by decide +kernel
theorem dX4_referenceOf_8 : decode cX4_referenceOf 8 = .ok (.aload_n 0, 1) := by decide +kernel
theorem dX4_referenceOf_9 : decode cX4_referenceOf 9 = .ok (.getfield 19, 3) := by decide +kernel
theorem dX4_referenceOf_12 : decode cX4_referenceOf 12 = .ok (.iload_n 1, 1) := by decide +kernel
theorem dX4_referenceOf_13 : decode cX4_referenceOf 13 = .ok (.iaload, 1) := by decide +kernel
theorem dX4_referenceOf_14 : decode cX4_referenceOf 14 = .ok (.goto 4, 3) := by decide +kernel
theorem dX4_referenceOf_17 : decode cX4_referenceOf 17 = .ok (.iconst (-1), 1) := by decide +kernel
theorem dX4_referenceOf_18 : decode cX4_referenceOf 18 = .ok (.ireturn, 1) := by decide +kernel
theorem dX4_lengthOf_0 : decode cX4_lengthOf 0 = .ok (.iload_n 1, 1) := by decide +kernel
theorem dX4_lengthOf_1 : decode cX4_lengthOf 1 = .ok (.ifCond .lt 20, 3) := by decide +kernel
theorem dX4_lengthOf_4 : decode cX4_lengthOf 4 = .ok (.iload_n 1, 1) := by decide +kernel
theorem dX4_lengthOf_5 : decode cX4_lengthOf 5 = .ok (.aload_n 0, 1) := by decide +kernel
theorem dX4_lengthOf_6 : decode cX4_lengthOf 6 = .ok (.getfield 32, 3) := by decide +kernel
theorem dX4_lengthOf_9 : decode cX4_lengthOf 9 = .ok (.if_icmp .ge 12, 3) := by decide +kernel
theorem dX4_lengthOf_12 : decode cX4_lengthOf 12 = .ok (.aload_n 0, 1) := by decide +kernel
theorem dX4_lengthOf_13 : decode cX4_lengthOf 13 = .ok (.getfield 22, 3) := by decide +kernel
theorem dX4_lengthOf_16 : decode cX4_lengthOf 16 = .ok (.iload_n 1, 1) := by decide +kernel
theorem dX4_lengthOf_17 : decode cX4_lengthOf 17 = .ok (.iaload, 1) := by decide +kernel
theorem dX4_lengthOf_18 : decode cX4_lengthOf 18 = .ok (.goto 4, 3) := by decide +kernel
theorem dX4_lengthOf_21 : decode cX4_lengthOf 21 = .ok (.iconst 0, 1) := by decide +kernel
theorem dX4_lengthOf_22 : decode cX4_lengthOf 22 = .ok (.ireturn, 1) := by decide +kernel
theorem dX4_itemOf_0 : decode cX4_itemOf 0 = .ok (.aload_n 0, 1) := by decide +kernel
theorem dX4_itemOf_1 : decode cX4_itemOf 1 = .ok (.iload_n 1, 1) := by decide +kernel
theorem dX4_itemOf_2 : decode cX4_itemOf 2 = .ok (.iload_n 2, 1) := by decide +kernel
theorem dX4_itemOf_3 : decode cX4_itemOf 3 = .ok (.i2l, 1) := by decide +kernel
theorem dX4_itemOf_4 : decode cX4_itemOf 4 = .ok (.invokevirtual 40, 3) := by decide +kernel
theorem dX4_itemOf_7 : decode cX4_itemOf 7 = .ok (.ifCond .eq 17, 3) := by decide +kernel
theorem dX4_itemOf_10 : decode cX4_itemOf 10 = .ok (.aload_n 0, 1) := by decide +kernel
theorem dX4_itemOf_11 : decode cX4_itemOf 11 = .ok (.getfield 29, 3) := by decide +kernel
theorem dX4_itemOf_14 : decode cX4_itemOf 14 = .ok (.iload_n 1, 1) := by decide +kernel
theorem dX4_itemOf_15 : decode cX4_itemOf 15 = .ok (.bipush 8, 2) := by decide +kernel
theorem dX4_itemOf_17 : decode cX4_itemOf 17 = .ok (.imul, 1) := by decide +kernel
theorem dX4_itemOf_18 : decode cX4_itemOf 18 = .ok (.iload_n 2, 1) := by decide +kernel
theorem dX4_itemOf_19 : decode cX4_itemOf 19 = .ok (.iadd, 1) := by decide +kernel
theorem dX4_itemOf_20 : decode cX4_itemOf 20 = .ok (.laload, 1) := by decide +kernel
theorem dX4_itemOf_21 : decode cX4_itemOf 21 = .ok (.goto 4, 3) := by decide +kernel
theorem dX4_itemOf_24 : decode cX4_itemOf 24 = .ok (.lconst 0, 1) := by decide +kernel
theorem dX4_itemOf_25 : decode cX4_itemOf 25 = .ok (.lreturn, 1) := by decide +kernel
theorem dX5_init_0 : decode cX5_init 0 = .ok (.aload_n 0, 1) := by decide +kernel
theorem dX5_init_1 : decode cX5_init 1 = .ok (.invokespecial 3, 3) := by decide +kernel
theorem dX5_init_4 : decode cX5_init 4 = .ok (.aload_n 0, 1) := by decide +kernel
theorem dX5_init_5 : decode cX5_init 5 = .ok (.bipush 80, 2) := by decide +kernel
theorem dX5_init_7 : decode cX5_init 7 = .ok (.newarray .char, 2) := by decide +kernel
theorem dX5_init_9 : decode cX5_init 9 = .ok (.putfield 9, 3) := by decide +kernel
theorem dX5_init_12 : decode cX5_init 12 = .ok (.aload_n 0, 1) := by decide +kernel
theorem dX5_init_13 : decode cX5_init 13 = .ok (.iconst 0, 1) := by decide +kernel
theorem dX5_init_14 : decode cX5_init 14 = .ok (.putfield 15, 3) := by decide +kernel
theorem dX5_init_17 : decode cX5_init 17 = .ok (.return_, 1) := by decide +kernel
theorem dX5_append_0 : decode cX5_append 0 = .ok (.iload_n 3, 1) := by decide +kernel
theorem dX5_append_1 : decode cX5_append 1 = .ok (.iconst 1, 1) := by decide +kernel
theorem dX5_append_2 : decode cX5_append 2 = .ok (.if_icmp .lt 28, 3) := by decide +kernel
theorem dX5_append_5 : decode cX5_append 5 = .ok (.iload_n 3, 1) := by decide +kernel
theorem dX5_append_6 : decode cX5_append 6 = .ok (.bipush 8, 2) := by decide +kernel
theorem dX5_append_8 : decode cX5_append 8 = .ok (.if_icmp .gt 22, 3) := by decide +kernel
theorem dX5_append_11 : decode cX5_append 11 = .ok (.aload_n 0, 1) := by decide +kernel
theorem dX5_append_12 : decode cX5_append 12 = .ok (.getfield 15, 3) := by decide +kernel
theorem dX5_append_15 : decode cX5_append 15 = .ok (.iload_n 3, 1) := by decide +kernel
theorem dX5_append_16 : decode cX5_append 16 = .ok (.iadd, 1) := by decide +kernel
theorem dX5_append_17 : decode cX5_append 17 = .ok (.bipush 80, 2) := by decide +kernel
theorem dX5_append_19 : decode cX5_append 19 = .ok (.if_icmp .gt 11, 3) := by decide +kernel
theorem dX5_append_22 : decode cX5_append 22 = .ok (.lload_n 1, 1) := by decide +kernel
theorem dX5_append_23 : decode cX5_append 23 = .ok (.iload_n 3, 1) := by decide +kernel
theorem dX5_append_24 : decode cX5_append 24 = .ok (.invokestatic 19, 3) := by decide +kernel
theorem dX5_append_27 : decode cX5_append 27 = .ok (.ifCond .ne 5, 3) := by decide +kernel
theorem dX5_append_30 : decode cX5_append 30 = .ok (.iconst 0, 1) := by decide +kernel
theorem dX5_append_31 : decode cX5_append 31 = .ok (.ireturn, 1) := by decide +kernel
theorem dX5_append_32 : decode cX5_append 32 = .ok (.iload_n 3, 1) := by decide +kernel
theorem dX5_append_33 : decode cX5_append 33 = .ok (.iconst 1, 1) := by decide +kernel
theorem dX5_append_34 : decode cX5_append 34 = .ok (.isub, 1) := by decide +kernel
theorem dX5_append_35 : decode cX5_append 35 = .ok (.istore 4, 2) := by decide +kernel
theorem dX5_append_37 : decode cX5_append 37 = .ok (.iload 4, 2) := by decide +kernel
theorem dX5_append_39 : decode cX5_append 39 = .ok (.ifCond .lt 34, 3) := by decide +kernel
theorem dX5_append_42 : decode cX5_append 42 = .ok (.aload_n 0, 1) := by decide +kernel
theorem dX5_append_43 : decode cX5_append 43 = .ok (.getfield 9, 3) := by decide +kernel
theorem dX5_append_46 : decode cX5_append 46 = .ok (.aload_n 0, 1) := by decide +kernel
theorem dX5_append_47 : decode cX5_append 47 = .ok (.getfield 15, 3) := by decide +kernel
theorem dX5_append_50 : decode cX5_append 50 = .ok (.lload_n 1, 1) := by decide +kernel
theorem dX5_append_51 : decode cX5_append 51 = .ok (.iload 4, 2) := by decide +kernel
theorem dX5_append_53 : decode cX5_append 53 = .ok (.invokestatic 23, 3) := by decide +kernel
theorem dX5_append_56 : decode cX5_append 56 = .ok (.castore, 1) := by decide +kernel
theorem dX5_append_57 : decode cX5_append 57 = .ok (.aload_n 0, 1) := by decide +kernel
theorem dX5_append_58 : decode cX5_append 58 = .ok (.dup, 1) := by decide +kernel
theorem dX5_append_59 : decode cX5_append 59 = .ok (.getfield 15, 3) := by decide +kernel
theorem dX5_append_62 : decode cX5_append 62 = .ok (.iconst 1, 1) := by decide +kernel
theorem dX5_append_63 : decode cX5_append 63 = .ok (.iadd, 1) := by decide +kernel
theorem dX5_append_64 : decode cX5_append 64 = .ok (.putfield 15, 3) := by decide +kernel
theorem dX5_append_67 : decode cX5_append 67 = .ok (.iinc 4 (-1), 3) := by decide +kernel
theorem dX5_append_70 : decode cX5_append 70 = .ok (.goto (-33), 3) := by decide +kernel
theorem dX5_append_73 : decode cX5_append 73 = .ok (.iconst 1, 1) := by decide +kernel
theorem dX5_append_74 : decode cX5_append 74 = .ok (.ireturn, 1) := by decide +kernel
theorem dX5_clear_0 : decode cX5_clear 0 = .ok (.aload_n 0, 1) := by decide +kernel
theorem dX5_clear_1 : decode cX5_clear 1 = .ok (.iconst 0, 1) := by decide +kernel
theorem dX5_clear_2 : decode cX5_clear 2 = .ok (.putfield 15, 3) := by decide +kernel
theorem dX5_clear_5 : decode cX5_clear 5 = .ok (.return_, 1) := by decide +kernel
theorem dX5_isPlain_0 : decode cX5_isPlain 0 = .ok (.iconst 0, 1) := by decide +kernel
theorem dX5_isPlain_1 : decode cX5_isPlain 1 = .ok (.istore_n 3, 1) := by decide +kernel
theorem dX5_isPlain_2 : decode cX5_isPlain 2 = .ok (.iload_n 3, 1) := by decide +kernel
theorem dX5_isPlain_3 : decode cX5_isPlain 3 = .ok (.iload_n 2, 1) := by decide +kernel
theorem dX5_isPlain_4 : decode cX5_isPlain 4 = .ok (.if_icmp .ge 32, 3) := by decide +kernel
theorem dX5_isPlain_7 : decode cX5_isPlain 7 = .ok (.lload_n 0, 1) := by decide +kernel
theorem dX5_isPlain_8 : decode cX5_isPlain 8 = .ok (.iload_n 3, 1) := by decide +kernel
theorem dX5_isPlain_9 : decode cX5_isPlain 9 = .ok (.invokestatic 23, 3) := by decide +kernel
theorem dX5_isPlain_12 : decode cX5_isPlain 12 = .ok (.istore 4, 2) := by decide +kernel
theorem dX5_isPlain_14 : decode cX5_isPlain 14 = .ok (.iload 4, 2) := by decide +kernel
theorem dX5_isPlain_16 : decode cX5_isPlain 16 = .ok (.bipush 33, 2) := by decide +kernel
theorem dX5_isPlain_18 : decode cX5_isPlain 18 = .ok (.if_icmp .lt 10, 3) := by decide +kernel
theorem dX5_isPlain_21 : decode cX5_isPlain 21 = .ok (.iload 4, 2) := by decide +kernel
theorem dX5_isPlain_23 : decode cX5_isPlain 23 = .ok (.bipush 126, 2) := by decide +kernel
theorem dX5_isPlain_25 : decode cX5_isPlain 25 = .ok (.if_icmp .le 5, 3) := by decide +kernel
theorem dX5_isPlain_28 : decode cX5_isPlain 28 = .ok (.iconst 0, 1) := by decide +kernel
theorem dX5_isPlain_29 : decode cX5_isPlain 29 = .ok (.ireturn, 1) := by decide +kernel
theorem dX5_isPlain_30 : decode cX5_isPlain 30 = .ok (.iinc 3 1, 3) := by decide +kernel
theorem dX5_isPlain_33 : decode cX5_isPlain 33 = .ok (.goto (-31), 3) := by decide +kernel
theorem dX5_isPlain_36 : decode cX5_isPlain 36 = .ok (.iconst 1, 1) := by decide +kernel
theorem dX5_isPlain_37 : decode cX5_isPlain 37 = .ok (.ireturn, 1) := by decide +kernel
theorem dX5_byteOf_0 : decode cX5_byteOf 0 = .ok (.lload_n 0, 1) := by decide +kernel
theorem dX5_byteOf_1 : decode cX5_byteOf 1 = .ok (.bipush 8, 2) := by decide +kernel
theorem dX5_byteOf_3 : decode cX5_byteOf 3 = .ok (.iload_n 2, 1) := by decide +kernel
theorem dX5_byteOf_4 : decode cX5_byteOf 4 = .ok (.imul, 1) := by decide +kernel
theorem dX5_byteOf_5 : decode cX5_byteOf 5 = .ok (.lushr, 1) := by decide +kernel
theorem dX5_byteOf_6 : decode cX5_byteOf 6 = .ok (.ldc2_w 27, 3) := by decide +kernel
theorem dX5_byteOf_9 : decode cX5_byteOf 9 = .ok (.land, 1) := by decide +kernel
theorem dX5_byteOf_10 : decode cX5_byteOf 10 = .ok (.l2i, 1) := by decide +kernel
theorem dX5_byteOf_11 : decode cX5_byteOf 11 = .ok (.i2c, 1) := by decide +kernel
theorem dX5_byteOf_12 : decode cX5_byteOf 12 = .ok (.ireturn, 1) := by decide +kernel
theorem dX6_init_0 : decode cX6_init 0 = .ok (.aload_n 0, 1) := by decide +kernel
theorem dX6_init_1 : decode cX6_init 1 = .ok (.invokespecial 3, 3) := by decide +kernel
theorem dX6_init_4 : decode cX6_init 4 = .ok (.aload_n 0, 1) := by decide +kernel
theorem dX6_init_5 : decode cX6_init 5 = .ok (.bipush 80, 2) := by decide +kernel
theorem dX6_init_7 : decode cX6_init 7 = .ok (.newarray .long, 2) := by decide +kernel
theorem dX6_init_9 : decode cX6_init 9 = .ok (.putfield 9, 3) := by decide +kernel
theorem dX6_init_12 : decode cX6_init 12 = .ok (.aload_n 0, 1) := by decide +kernel
theorem dX6_init_13 : decode cX6_init 13 = .ok (.bipush 80, 2) := by decide +kernel
theorem dX6_init_15 : decode cX6_init 15 = .ok (.newarray .boolean, 2) := by decide +kernel
theorem dX6_init_17 : decode cX6_init 17 = .ok (.putfield 15, 3) := by decide +kernel
theorem dX6_init_20 : decode cX6_init 20 = .ok (.aload_n 0, 1) := by decide +kernel
theorem dX6_init_21 : decode cX6_init 21 = .ok (.lconst 0, 1) := by decide +kernel
theorem dX6_init_22 : decode cX6_init 22 = .ok (.putfield 19, 3) := by decide +kernel
theorem dX6_init_25 : decode cX6_init 25 = .ok (.aload_n 0, 1) := by decide +kernel
theorem dX6_init_26 : decode cX6_init 26 = .ok (.iconst 0, 1) := by decide +kernel
theorem dX6_init_27 : decode cX6_init 27 = .ok (.putfield 23, 3) := by decide +kernel
theorem dX6_init_30 : decode cX6_init 30 = .ok (.aload_n 0, 1) := by decide +kernel
theorem dX6_init_31 : decode cX6_init 31 = .ok (.aload_n 1, 1) := by decide +kernel
theorem dX6_init_32 : decode cX6_init 32 = .ok (.putfield 27, 3) := by decide +kernel
theorem dX6_init_35 : decode cX6_init 35 = .ok (.return_, 1) := by decide +kernel
theorem dX6_work_0 : decode cX6_work 0 = .ok (.aload_n 0, 1) := by decide +kernel
theorem dX6_work_1 : decode cX6_work 1 = .ok (.lconst 0, 1) := by decide +kernel
theorem dX6_work_2 : decode cX6_work 2 = .ok (.putfield 19, 3) := by decide +kernel
theorem dX6_work_5 : decode cX6_work 5 = .ok (.aload_n 0, 1) := by decide +kernel
theorem dX6_work_6 : decode cX6_work 6 = .ok (.iconst 0, 1) := by decide +kernel
theorem dX6_work_7 : decode cX6_work 7 = .ok (.putfield 23, 3) := by decide +kernel
theorem dX6_work_10 : decode cX6_work 10 = .ok (.iconst 0, 1) := by decide +kernel
theorem dX6_work_11 : decode cX6_work 11 = .ok (.istore_n 3, 1) := by decide +kernel
theorem dX6_work_12 : decode cX6_work 12 = .ok (.iload_n 3, 1) := by decide +kernel
theorem dX6_work_13 : decode cX6_work 13 = .ok (.aload_n 1, 1) := by decide +kernel
theorem dX6_work_14 : decode cX6_work 14 = .ok (.getfield 31, 3) := by decide +kernel
theorem dX6_work_17 : decode cX6_work 17 = .ok (.if_icmp .ge 217, 3) := by decide +kernel
theorem dX6_work_20 : decode cX6_work 20 = .ok (.iload_n 3, 1) := by decide +kernel
theorem dX6_work_21 : decode cX6_work 21 = .ok (.bipush 80, 2) := by decide +kernel
theorem dX6_work_23 : decode cX6_work 23 = .ok (.if_icmp .ge 211, 3) := by decide +kernel
theorem dX6_work_26 : decode cX6_work 26 = .ok (.aload_n 1, 1) := by decide +kernel
theorem dX6_work_27 : decode cX6_work 27 = .ok (.getfield 37, 3) := by decide +kernel
theorem dX6_work_30 : decode cX6_work 30 = .ok (.iload_n 3, 1) := by decide +kernel
theorem dX6_work_31 : decode cX6_work 31 = .ok (.iaload, 1) := by decide +kernel
theorem dX6_work_32 : decode cX6_work 32 = .ok (.istore 4, 2) := by decide +kernel
theorem dX6_work_34 : decode cX6_work 34 = .ok (.aload_n 1, 1) := by decide +kernel
theorem dX6_work_35 : decode cX6_work 35 = .ok (.getfield 41, 3) := by decide +kernel
theorem dX6_work_38 : decode cX6_work 38 = .ok (.iload_n 3, 1) := by decide +kernel
theorem dX6_work_39 : decode cX6_work 39 = .ok (.iaload, 1) := by decide +kernel
theorem dX6_work_40 : decode cX6_work 40 = .ok (.istore 5, 2) := by decide +kernel
theorem dX6_work_42 : decode cX6_work 42 = .ok (.aload_n 0, 1) := by decide +kernel
theorem dX6_work_43 : decode cX6_work 43 = .ok (.getfield 15, 3) := by decide +kernel
theorem dX6_work_46 : decode cX6_work 46 = .ok (.iload_n 3, 1) := by decide +kernel
theorem dX6_work_47 : decode cX6_work 47 = .ok (.iconst 0, 1) := by decide +kernel
theorem dX6_work_48 : decode cX6_work 48 = .ok (.bastore, 1) := by decide +kernel
theorem dX6_work_49 : decode cX6_work 49 = .ok (.aload_n 1, 1) := by decide +kernel
theorem dX6_work_50 : decode cX6_work 50 = .ok (.getfield 44, 3) := by decide +kernel
theorem dX6_work_53 : decode cX6_work 53 = .ok (.iload_n 3, 1) := by decide +kernel
theorem dX6_work_54 : decode cX6_work 54 = .ok (.caload, 1) := by decide +kernel
theorem dX6_work_55 : decode cX6_work 55 = .ok (.lookupswitch 127 #[(48, 65), (97, 77), (98, 77), (99, 77), (105, 77), (110, 77), (116, 104)], 65) := by decide +kernel
theorem dX6_work_120 : decode cX6_work 120 = .ok (.aload_n 0, 1) := by decide +kernel
theorem dX6_work_121 : decode cX6_work 121 = .ok (.getfield 9, 3) := by decide +kernel
theorem dX6_work_124 : decode cX6_work 124 = .ok (.iload_n 3, 1) := by decide +kernel
theorem dX6_work_125 : decode cX6_work 125 = .ok (.iload 4, 2) := by decide +kernel
theorem dX6_work_127 : decode cX6_work 127 = .ok (.i2l, 1) := by decide +kernel
theorem dX6_work_128 : decode cX6_work 128 = .ok (.lastore, 1) := by decide +kernel
theorem dX6_work_129 : decode cX6_work 129 = .ok (.goto 74, 3) := by decide +kernel
theorem dX6_work_132 : decode cX6_work 132 = .ok (.aload_n 0, 1) := by decide +kernel
theorem dX6_work_133 : decode cX6_work 133 = .ok (.getfield 9, 3) := by decide +kernel
theorem dX6_work_136 : decode cX6_work 136 = .ok (.iload_n 3, 1) := by decide +kernel
theorem dX6_work_137 : decode cX6_work 137 = .ok (.aload_n 0, 1) := by decide +kernel
theorem dX6_work_138 : decode cX6_work 138 = .ok (.aload_n 1, 1) := by decide +kernel
theorem dX6_work_139 : decode cX6_work 139 = .ok (.getfield 44, 3) := by decide +kernel
theorem dX6_work_142 : decode cX6_work 142 = .ok (.iload_n 3, 1) := by decide +kernel
theorem dX6_work_143 : decode cX6_work 143 = .ok (.caload, 1) := by decide +kernel
theorem dX6_work_144 : decode cX6_work 144 = .ok (.aload_n 0, 1) := by decide +kernel
theorem dX6_work_145 : decode cX6_work 145 = .ok (.iload_n 2, 1) := by decide +kernel
theorem dX6_work_146 : decode cX6_work 146 = .ok (.iload 4, 2) := by decide +kernel
theorem dX6_work_148 : decode cX6_work 148 = .ok (.invokevirtual 48, 3) := by decide +kernel
theorem dX6_work_151 : decode cX6_work 151 = .ok (.iload_n 3, 1) := by decide +kernel
theorem dX6_work_152 : decode cX6_work 152 = .ok (.invokevirtual 52, 3) := by decide +kernel
theorem dX6_work_155 : decode cX6_work 155 = .ok (.lastore, 1) := by decide +kernel
theorem dX6_work_156 : decode cX6_work 156 = .ok (.goto 47, 3) := by decide +kernel
theorem dX6_work_159 : decode cX6_work 159 = .ok (.aload_n 0, 1) := by decide +kernel
theorem dX6_work_160 : decode cX6_work 160 = .ok (.getfield 9, 3) := by decide +kernel
theorem dX6_work_163 : decode cX6_work 163 = .ok (.iload_n 3, 1) := by decide +kernel
theorem dX6_work_164 : decode cX6_work 164 = .ok (.aload_n 0, 1) := by decide +kernel
theorem dX6_work_165 : decode cX6_work 165 = .ok (.aload_n 0, 1) := by decide +kernel
theorem dX6_work_166 : decode cX6_work 166 = .ok (.iload_n 2, 1) := by decide +kernel
theorem dX6_work_167 : decode cX6_work 167 = .ok (.iload 4, 2) := by decide +kernel
theorem dX6_work_169 : decode cX6_work 169 = .ok (.invokevirtual 48, 3) := by decide +kernel
theorem dX6_work_172 : decode cX6_work 172 = .ok (.iload 5, 2) := by decide +kernel
theorem dX6_work_174 : decode cX6_work 174 = .ok (.iload_n 3, 1) := by decide +kernel
theorem dX6_work_175 : decode cX6_work 175 = .ok (.invokevirtual 56, 3) := by decide +kernel
theorem dX6_work_178 : decode cX6_work 178 = .ok (.lastore, 1) := by decide +kernel
theorem dX6_work_179 : decode cX6_work 179 = .ok (.goto 24, 3) := by decide +kernel
theorem dX6_work_182 : decode cX6_work 182 = .ok (.aload_n 0, 1) := by decide +kernel
theorem dX6_work_183 : decode cX6_work 183 = .ok (.getfield 9, 3) := by decide +kernel
theorem dX6_work_186 : decode cX6_work 186 = .ok (.iload_n 3, 1) := by decide +kernel
theorem dX6_work_187 : decode cX6_work 187 = .ok (.aload_n 0, 1) := by decide +kernel
theorem dX6_work_188 : decode cX6_work 188 = .ok (.aload_n 1, 1) := by decide +kernel
theorem dX6_work_189 : decode cX6_work 189 = .ok (.getfield 44, 3) := by decide +kernel
theorem dX6_work_192 : decode cX6_work 192 = .ok (.iload_n 3, 1) := by decide +kernel
theorem dX6_work_193 : decode cX6_work 193 = .ok (.caload, 1) := by decide +kernel
theorem dX6_work_194 : decode cX6_work 194 = .ok (.iload 4, 2) := by decide +kernel
theorem dX6_work_196 : decode cX6_work 196 = .ok (.iload 5, 2) := by decide +kernel
theorem dX6_work_198 : decode cX6_work 198 = .ok (.iload_n 3, 1) := by decide +kernel
theorem dX6_work_199 : decode cX6_work 199 = .ok (.invokevirtual 60, 3) := by decide +kernel
theorem dX6_work_202 : decode cX6_work 202 = .ok (.lastore, 1) := by decide +kernel
theorem dX6_work_203 : decode cX6_work 203 = .ok (.aload_n 0, 1) := by decide +kernel
theorem dX6_work_204 : decode cX6_work 204 = .ok (.aload_n 0, 1) := by decide +kernel
theorem dX6_work_205 : decode cX6_work 205 = .ok (.getfield 23, 3) := by decide +kernel
theorem dX6_work_208 : decode cX6_work 208 = .ok (.ifCond .ne 12, 3) := by decide +kernel
theorem dX6_work_211 : decode cX6_work 211 = .ok (.aload_n 0, 1) := by decide +kernel
theorem dX6_work_212 : decode cX6_work 212 = .ok (.getfield 15, 3) := by decide +kernel
theorem dX6_work_215 : decode cX6_work 215 = .ok (.iload_n 3, 1) := by decide +kernel
theorem dX6_work_216 : decode cX6_work 216 = .ok (.baload, 1) := by decide +kernel
theorem dX6_work_217 : decode cX6_work 217 = .ok (.ifCond .eq 7, 3) := by decide +kernel
theorem dX6_work_220 : decode cX6_work 220 = .ok (.iconst 1, 1) := by decide +kernel
theorem dX6_work_221 : decode cX6_work 221 = .ok (.goto 4, 3) := by decide +kernel
theorem dX6_work_224 : decode cX6_work 224 = .ok (.iconst 0, 1) := by decide +kernel
theorem dX6_work_225 : decode cX6_work 225 = .ok (.putfield 23, 3) := by decide +kernel
theorem dX6_work_228 : decode cX6_work 228 = .ok (.iinc 3 1, 3) := by decide +kernel
theorem dX6_work_231 : decode cX6_work 231 = .ok (.goto (-219), 3) := by decide +kernel
theorem dX6_work_234 : decode cX6_work 234 = .ok (.return_, 1) := by decide +kernel
theorem dX6_seen_0 : decode cX6_seen 0 = .ok (.aload_n 0, 1) := by decide +kernel
theorem dX6_seen_1 : decode cX6_seen 1 = .ok (.getfield 19, 3) := by decide +kernel
theorem dX6_seen_4 : decode cX6_seen 4 = .ok (.lreturn, 1) := by decide +kernel
theorem dX6_isAnyAbsent_0 : decode cX6_isAnyAbsent 0 = .ok (.aload_n 0, 1) := by decide +kernel
theorem dX6_isAnyAbsent_1 : decode cX6_isAnyAbsent 1 = .ok (.getfield 23, 3) := by decide +kernel
theorem dX6_isAnyAbsent_4 : decode cX6_isAnyAbsent 4 = .ok (.ireturn, 1) := by decide +kernel
theorem dX6_valueOr_0 : decode cX6_valueOr 0 = .ok (.iload_n 1, 1) := by decide +kernel
theorem dX6_valueOr_1 : decode cX6_valueOr 1 = .ok (.invokestatic 64, 3) := by decide +kernel
theorem dX6_valueOr_4 : decode cX6_valueOr 4 = .ok (.ifCond .eq 12, 3) := by decide +kernel
theorem dX6_valueOr_7 : decode cX6_valueOr 7 = .ok (.aload_n 0, 1) := by decide +kernel
theorem dX6_valueOr_8 : decode cX6_valueOr 8 = .ok (.getfield 9, 3) := by decide +kernel
theorem dX6_valueOr_11 : decode cX6_valueOr 11 = .ok (.iload_n 1, 1) := by decide +kernel
theorem dX6_valueOr_12 : decode cX6_valueOr 12 = .ok (.laload, 1) := by decide +kernel
theorem dX6_valueOr_13 : decode cX6_valueOr 13 = .ok (.goto 4, 3) := by decide +kernel
theorem dX6_valueOr_16 : decode cX6_valueOr 16 = .ok (.lload_n 2, 1) := by decide +kernel
theorem dX6_valueOr_17 : decode cX6_valueOr 17 = .ok (.lreturn, 1) := by decide +kernel
theorem dX6_isNode_0 : decode cX6_isNode 0 = .ok (.iload_n 0, 1) := by decide +kernel
theorem dX6_isNode_1 : decode cX6_isNode 1 = .ok (.ifCond .lt 13, 3) := by decide +kernel
theorem dX6_isNode_4 : decode cX6_isNode 4 = .ok (.iload_n 0, 1) := by decide +kernel
theorem dX6_isNode_5 : decode cX6_isNode 5 = .ok (.bipush 80, 2) := by decide +kernel
theorem dX6_isNode_7 : decode cX6_isNode 7 = .ok (.if_icmp .ge 7, 3) := by decide +kernel
theorem dX6_isNode_10 : decode cX6_isNode 10 = .ok (.iconst 1, 1) := by decide +kernel
theorem dX6_isNode_11 : decode cX6_isNode 11 = .ok (.goto 4, 3) := by decide +kernel
theorem dX6_isNode_14 : decode cX6_isNode 14 = .ok (.iconst 0, 1) := by decide +kernel
theorem dX6_isNode_15 : decode cX6_isNode 15 = .ok (.ireturn, 1) := by decide +kernel
theorem dX6_walk_0 : decode cX6_walk 0 = .ok (.iload_n 1, 1) := by decide +kernel
theorem dX6_walk_1 : decode cX6_walk 1 = .ok (.istore_n 3, 1) := by decide +kernel
theorem dX6_walk_2 : decode cX6_walk 2 = .ok (.iconst 0, 1) := by decide +kernel
theorem dX6_walk_3 : decode cX6_walk 3 = .ok (.istore 4, 2) := by decide +kernel
theorem dX6_walk_5 : decode cX6_walk 5 = .ok (.iload 4, 2) := by decide +kernel
theorem dX6_walk_7 : decode cX6_walk 7 = .ok (.iload_n 2, 1) := by decide +kernel
theorem dX6_walk_8 : decode cX6_walk 8 = .ok (.if_icmp .ge 28, 3) := by decide +kernel
theorem dX6_walk_11 : decode cX6_walk 11 = .ok (.iload_n 3, 1) := by decide +kernel
theorem dX6_walk_12 : decode cX6_walk 12 = .ok (.iconst (-1), 1) := by decide +kernel
theorem dX6_walk_13 : decode cX6_walk 13 = .ok (.if_icmp .eq 23, 3) := by decide +kernel
theorem dX6_walk_16 : decode cX6_walk 16 = .ok (.aload_n 0, 1) := by decide +kernel
theorem dX6_walk_17 : decode cX6_walk 17 = .ok (.iload_n 3, 1) := by decide +kernel
theorem dX6_walk_18 : decode cX6_walk 18 = .ok (.invokevirtual 68, 3) := by decide +kernel
theorem dX6_walk_21 : decode cX6_walk 21 = .ok (.aload_n 0, 1) := by decide +kernel
theorem dX6_walk_22 : decode cX6_walk 22 = .ok (.getfield 27, 3) := by decide +kernel
theorem dX6_walk_25 : decode cX6_walk 25 = .ok (.iload_n 3, 1) := by decide +kernel
theorem dX6_walk_26 : decode cX6_walk 26 = .ok (.invokevirtual 72, 3) := by decide +kernel
theorem dX6_walk_29 : decode cX6_walk 29 = .ok (.istore_n 3, 1) := by decide +kernel
theorem dX6_walk_30 : decode cX6_walk 30 = .ok (.iinc 4 1, 3) := by decide +kernel
theorem dX6_walk_33 : decode cX6_walk 33 = .ok (.goto (-28), 3) := by decide +kernel
theorem dX6_walk_36 : decode cX6_walk 36 = .ok (.iload_n 3, 1) := by decide +kernel
theorem dX6_walk_37 : decode cX6_walk 37 = .ok (.ireturn, 1) := by decide +kernel
theorem dX6_note_0 : decode cX6_note 0 = .ok (.aload_n 0, 1) := by decide +kernel
theorem dX6_note_1 : decode cX6_note 1 = .ok (.dup, 1) := by decide +kernel
theorem dX6_note_2 : decode cX6_note 2 = .ok (.getfield 19, 3) := by decide +kernel
theorem dX6_note_5 : decode cX6_note 5 = .ok (.lconst 1, 1) := by decide +kernel
theorem dX6_note_6 : decode cX6_note 6 = .ok (.iload_n 1, 1) := by decide +kernel
theorem dX6_note_7 : decode cX6_note 7 = .ok (.lshl, 1) := by decide +kernel
theorem dX6_note_8 : decode cX6_note 8 = .ok (.lor, 1) := by decide +kernel
theorem dX6_note_9 : decode cX6_note 9 = .ok (.putfield 19, 3) := by decide +kernel
theorem dX6_note_12 : decode cX6_note 12 = .ok (.return_, 1) := by decide +kernel
theorem dX6_missing_0 : decode cX6_missing 0 = .ok (.aload_n 0, 1) := by decide +kernel
theorem dX6_missing_1 : decode cX6_missing 1 = .ok (.getfield 15, 3) := by decide +kernel
theorem dX6_missing_4 : decode cX6_missing 4 = .ok (.iload_n 1, 1) := by decide +kernel
theorem dX6_missing_5 : decode cX6_missing 5 = .ok (.iconst 1, 1) := by decide +kernel
theorem dX6_missing_6 : decode cX6_missing 6 = .ok (.bastore, 1) := by decide +kernel
theorem dX6_missing_7 : decode cX6_missing 7 = .ok (.lconst 0, 1) := by decide +kernel
theorem dX6_missing_8 : decode cX6_missing 8 = .ok (.lreturn, 1) := by decide +kernel
theorem dX6_workField_0 : decode cX6_workField 0 = .ok (.iload_n 2, 1) := by decide +kernel
theorem dX6_workField_1 : decode cX6_workField 1 = .ok (.iconst (-1), 1) := by decide +kernel
theorem dX6_workField_2 : decode cX6_workField 2 = .ok (.if_icmp .ne 9, 3) := by decide +kernel
theorem dX6_workField_5 : decode cX6_workField 5 = .ok (.aload_n 0, 1) := by decide +kernel
theorem dX6_workField_6 : decode cX6_workField 6 = .ok (.iload_n 3, 1) := by decide +kernel
theorem dX6_workField_7 : decode cX6_workField 7 = .ok (.invokevirtual 78, 3) := by decide +kernel
theorem dX6_workField_10 : decode cX6_workField 10 = .ok (.lreturn, 1) := by decide +kernel
theorem dX6_workField_11 : decode cX6_workField 11 = .ok (.aload_n 0, 1) := by decide +kernel
theorem dX6_workField_12 : decode cX6_workField 12 = .ok (.iload_n 2, 1) := by decide +kernel
theorem dX6_workField_13 : decode cX6_workField 13 = .ok (.invokevirtual 68, 3) := by decide +kernel
theorem dX6_workField_16 : decode cX6_workField 16 = .ok (.iload_n 1, 1) := by decide +kernel
theorem dX6_workField_17 : decode cX6_workField 17 = .ok (.lookupswitch 40 #[(105, 37), (110, 27)], 27) := by decide +kernel
theorem dX6_workField_44 : decode cX6_workField 44 = .ok (.aload_n 0, 1) := by decide +kernel
theorem dX6_workField_45 : decode cX6_workField 45 = .ok (.getfield 27, 3) := by decide +kernel
theorem dX6_workField_48 : decode cX6_workField 48 = .ok (.iload_n 2, 1) := by decide +kernel
theorem dX6_workField_49 : decode cX6_workField 49 = .ok (.invokevirtual 82, 3) := by decide +kernel
theorem dX6_workField_52 : decode cX6_workField 52 = .ok (.i2l, 1) := by decide +kernel
theorem dX6_workField_53 : decode cX6_workField 53 = .ok (.lreturn, 1) := by decide +kernel
theorem dX6_workField_54 : decode cX6_workField 54 = .ok (.iload_n 2, 1) := by decide +kernel
theorem dX6_workField_55 : decode cX6_workField 55 = .ok (.i2l, 1) := by decide +kernel
theorem dX6_workField_56 : decode cX6_workField 56 = .ok (.lreturn, 1) := by decide +kernel
theorem dX6_workField_57 : decode cX6_workField 57 = .ok (.aload_n 0, 1) := by decide +kernel
theorem dX6_workField_58 : decode cX6_workField 58 = .ok (.getfield 27, 3) := by decide +kernel
theorem dX6_workField_61 : decode cX6_workField 61 = .ok (.iload_n 2, 1) := by decide +kernel
theorem dX6_workField_62 : decode cX6_workField 62 = .ok (.iload_n 1, 1) := by decide +kernel
theorem dX6_workField_63 : decode cX6_workField 63 = .ok (.bipush 97, 2) := by decide +kernel
theorem dX6_workField_65 : decode cX6_workField 65 = .ok (.isub, 1) := by decide +kernel
theorem dX6_workField_66 : decode cX6_workField 66 = .ok (.invokevirtual 85, 3) := by decide +kernel
theorem dX6_workField_69 : decode cX6_workField 69 = .ok (.lreturn, 1) := by decide +kernel
theorem dX6_workItem_0 : decode cX6_workItem 0 = .ok (.iload_n 1, 1) := by decide +kernel
theorem dX6_workItem_1 : decode cX6_workItem 1 = .ok (.iconst (-1), 1) := by decide +kernel
theorem dX6_workItem_2 : decode cX6_workItem 2 = .ok (.if_icmp .ne 9, 3) := by decide +kernel
theorem dX6_workItem_5 : decode cX6_workItem 5 = .ok (.aload_n 0, 1) := by decide +kernel
theorem dX6_workItem_6 : decode cX6_workItem 6 = .ok (.iload_n 3, 1) := by decide +kernel
theorem dX6_workItem_7 : decode cX6_workItem 7 = .ok (.invokevirtual 78, 3) := by decide +kernel
theorem dX6_workItem_10 : decode cX6_workItem 10 = .ok (.lreturn, 1) := by decide +kernel
theorem dX6_workItem_11 : decode cX6_workItem 11 = .ok (.aload_n 0, 1) := by decide +kernel
theorem dX6_workItem_12 : decode cX6_workItem 12 = .ok (.iload_n 1, 1) := by decide +kernel
theorem dX6_workItem_13 : decode cX6_workItem 13 = .ok (.invokevirtual 68, 3) := by decide +kernel
theorem dX6_workItem_16 : decode cX6_workItem 16 = .ok (.iload_n 2, 1) := by decide +kernel
theorem dX6_workItem_17 : decode cX6_workItem 17 = .ok (.invokestatic 64, 3) := by decide +kernel
theorem dX6_workItem_20 : decode cX6_workItem 20 = .ok (.ifCond .eq 12, 3) := by decide +kernel
theorem dX6_workItem_23 : decode cX6_workItem 23 = .ok (.aload_n 0, 1) := by decide +kernel
theorem dX6_workItem_24 : decode cX6_workItem 24 = .ok (.getfield 15, 3) := by decide +kernel
theorem dX6_workItem_27 : decode cX6_workItem 27 = .ok (.iload_n 2, 1) := by decide +kernel
theorem dX6_workItem_28 : decode cX6_workItem 28 = .ok (.baload, 1) := by decide +kernel
theorem dX6_workItem_29 : decode cX6_workItem 29 = .ok (.ifCond .eq 9, 3) := by decide +kernel
theorem dX6_workItem_32 : decode cX6_workItem 32 = .ok (.aload_n 0, 1) := by decide +kernel
theorem dX6_workItem_33 : decode cX6_workItem 33 = .ok (.iload_n 3, 1) := by decide +kernel
theorem dX6_workItem_34 : decode cX6_workItem 34 = .ok (.invokevirtual 78, 3) := by decide +kernel
theorem dX6_workItem_37 : decode cX6_workItem 37 = .ok (.lreturn, 1) := by decide +kernel
theorem dX6_workItem_38 : decode cX6_workItem 38 = .ok (.aload_n 0, 1) := by decide +kernel
theorem dX6_workItem_39 : decode cX6_workItem 39 = .ok (.getfield 9, 3) := by decide +kernel
theorem dX6_workItem_42 : decode cX6_workItem 42 = .ok (.iload_n 2, 1) := by decide +kernel
theorem dX6_workItem_43 : decode cX6_workItem 43 = .ok (.laload, 1) := by decide +kernel
theorem dX6_workItem_44 : decode cX6_workItem 44 = .ok (.lstore 4, 2) := by decide +kernel
theorem dX6_workItem_46 : decode cX6_workItem 46 = .ok (.aload_n 0, 1) := by decide +kernel
theorem dX6_workItem_47 : decode cX6_workItem 47 = .ok (.getfield 27, 3) := by decide +kernel
theorem dX6_workItem_50 : decode cX6_workItem 50 = .ok (.iload_n 1, 1) := by decide +kernel
theorem dX6_workItem_51 : decode cX6_workItem 51 = .ok (.lload 4, 2) := by decide +kernel
theorem dX6_workItem_53 : decode cX6_workItem 53 = .ok (.invokevirtual 89, 3) := by decide +kernel
theorem dX6_workItem_56 : decode cX6_workItem 56 = .ok (.ifCond .eq 17, 3) := by decide +kernel
theorem dX6_workItem_59 : decode cX6_workItem 59 = .ok (.aload_n 0, 1) := by decide +kernel
theorem dX6_workItem_60 : decode cX6_workItem 60 = .ok (.getfield 27, 3) := by decide +kernel
theorem dX6_workItem_63 : decode cX6_workItem 63 = .ok (.iload_n 1, 1) := by decide +kernel
theorem dX6_workItem_64 : decode cX6_workItem 64 = .ok (.lload 4, 2) := by decide +kernel
theorem dX6_workItem_66 : decode cX6_workItem 66 = .ok (.l2i, 1) := by decide +kernel
theorem dX6_workItem_67 : decode cX6_workItem 67 = .ok (.invokevirtual 93, 3) := by decide +kernel
theorem dX6_workItem_70 : decode cX6_workItem 70 = .ok (.goto 8, 3) := by decide +kernel
theorem dX6_workItem_73 : decode cX6_workItem 73 = .ok (.aload_n 0, 1) := by decide +kernel
theorem dX6_workItem_74 : decode cX6_workItem 74 = .ok (.iload_n 3, 1) := by decide +kernel
theorem dX6_workItem_75 : decode cX6_workItem 75 = .ok (.invokevirtual 78, 3) := by decide +kernel
theorem dX6_workItem_78 : decode cX6_workItem 78 = .ok (.lreturn, 1) := by decide +kernel
theorem dX6_workPair_0 : decode cX6_workPair 0 = .ok (.iload_n 2, 1) := by decide +kernel
theorem dX6_workPair_1 : decode cX6_workPair 1 = .ok (.invokestatic 64, 3) := by decide +kernel
theorem dX6_workPair_4 : decode cX6_workPair 4 = .ok (.ifCond .eq 28, 3) := by decide +kernel
theorem dX6_workPair_7 : decode cX6_workPair 7 = .ok (.iload_n 3, 1) := by decide +kernel
theorem dX6_workPair_8 : decode cX6_workPair 8 = .ok (.invokestatic 64, 3) := by decide +kernel
theorem dX6_workPair_11 : decode cX6_workPair 11 = .ok (.ifCond .eq 21, 3) := by decide +kernel
theorem dX6_workPair_14 : decode cX6_workPair 14 = .ok (.aload_n 0, 1) := by decide +kernel
theorem dX6_workPair_15 : decode cX6_workPair 15 = .ok (.getfield 15, 3) := by decide +kernel
theorem dX6_workPair_18 : decode cX6_workPair 18 = .ok (.iload_n 2, 1) := by decide +kernel
theorem dX6_workPair_19 : decode cX6_workPair 19 = .ok (.baload, 1) := by decide +kernel
theorem dX6_workPair_20 : decode cX6_workPair 20 = .ok (.ifCond .ne 12, 3) := by decide +kernel
theorem dX6_workPair_23 : decode cX6_workPair 23 = .ok (.aload_n 0, 1) := by decide +kernel
theorem dX6_workPair_24 : decode cX6_workPair 24 = .ok (.getfield 15, 3) := by decide +kernel
theorem dX6_workPair_27 : decode cX6_workPair 27 = .ok (.iload_n 3, 1) := by decide +kernel
theorem dX6_workPair_28 : decode cX6_workPair 28 = .ok (.baload, 1) := by decide +kernel
theorem dX6_workPair_29 : decode cX6_workPair 29 = .ok (.ifCond .eq 10, 3) := by decide +kernel
theorem dX6_workPair_32 : decode cX6_workPair 32 = .ok (.aload_n 0, 1) := by decide +kernel
theorem dX6_workPair_33 : decode cX6_workPair 33 = .ok (.iload 4, 2) := by decide +kernel
theorem dX6_workPair_35 : decode cX6_workPair 35 = .ok (.invokevirtual 78, 3) := by decide +kernel
theorem dX6_workPair_38 : decode cX6_workPair 38 = .ok (.lreturn, 1) := by decide +kernel
theorem dX6_workPair_39 : decode cX6_workPair 39 = .ok (.aload_n 0, 1) := by decide +kernel
theorem dX6_workPair_40 : decode cX6_workPair 40 = .ok (.getfield 9, 3) := by decide +kernel
theorem dX6_workPair_43 : decode cX6_workPair 43 = .ok (.iload_n 2, 1) := by decide +kernel
theorem dX6_workPair_44 : decode cX6_workPair 44 = .ok (.laload, 1) := by decide +kernel
theorem dX6_workPair_45 : decode cX6_workPair 45 = .ok (.lstore 5, 2) := by decide +kernel
theorem dX6_workPair_47 : decode cX6_workPair 47 = .ok (.aload_n 0, 1) := by decide +kernel
theorem dX6_workPair_48 : decode cX6_workPair 48 = .ok (.getfield 9, 3) := by decide +kernel
theorem dX6_workPair_51 : decode cX6_workPair 51 = .ok (.iload_n 3, 1) := by decide +kernel
theorem dX6_workPair_52 : decode cX6_workPair 52 = .ok (.laload, 1) := by decide +kernel
theorem dX6_workPair_53 : decode cX6_workPair 53 = .ok (.lstore 7, 2) := by decide +kernel
theorem dX6_workPair_55 : decode cX6_workPair 55 = .ok (.iload_n 1, 1) := by decide +kernel
theorem dX6_workPair_56 : decode cX6_workPair 56 = .ok (.lookupswitch 126 #[(37, 100), (42, 72), (43, 60), (45, 66), (47, 78), (95, 122)], 60) := by decide +kernel
theorem dX6_workPair_116 : decode cX6_workPair 116 = .ok (.lload 5, 2) := by decide +kernel
theorem dX6_workPair_118 : decode cX6_workPair 118 = .ok (.lload 7, 2) := by decide +kernel
theorem dX6_workPair_120 : decode cX6_workPair 120 = .ok (.ladd, 1) := by decide +kernel
theorem dX6_workPair_121 : decode cX6_workPair 121 = .ok (.lreturn, 1) := by decide +kernel
theorem dX6_workPair_122 : decode cX6_workPair 122 = .ok (.lload 5, 2) := by decide +kernel
theorem dX6_workPair_124 : decode cX6_workPair 124 = .ok (.lload 7, 2) := by decide +kernel
theorem dX6_workPair_126 : decode cX6_workPair 126 = .ok (.lsub, 1) := by decide +kernel
theorem dX6_workPair_127 : decode cX6_workPair 127 = .ok (.lreturn, 1) := by decide +kernel
theorem dX6_workPair_128 : decode cX6_workPair 128 = .ok (.lload 5, 2) := by decide +kernel
theorem dX6_workPair_130 : decode cX6_workPair 130 = .ok (.lload 7, 2) := by decide +kernel
theorem dX6_workPair_132 : decode cX6_workPair 132 = .ok (.lmul, 1) := by decide +kernel
theorem dX6_workPair_133 : decode cX6_workPair 133 = .ok (.lreturn, 1) := by decide +kernel
theorem dX6_workPair_134 : decode cX6_workPair 134 = .ok (.lload 7, 2) := by decide +kernel
theorem dX6_workPair_136 : decode cX6_workPair 136 = .ok (.lconst 0, 1) := by decide +kernel
theorem dX6_workPair_137 : decode cX6_workPair 137 = .ok (.lcmp, 1) := by decide +kernel
theorem dX6_workPair_138 : decode cX6_workPair 138 = .ok (.ifCond .ne 12, 3) := by decide +kernel
theorem dX6_workPair_141 : decode cX6_workPair 141 = .ok (.aload_n 0, 1) := by decide +kernel
theorem dX6_workPair_142 : decode cX6_workPair 142 = .ok (.iload 4, 2) := by decide +kernel
theorem dX6_workPair_144 : decode cX6_workPair 144 = .ok (.invokevirtual 78, 3) := by decide +kernel
theorem dX6_workPair_147 : decode cX6_workPair 147 = .ok (.goto 8, 3) := by decide +kernel
theorem dX6_workPair_150 : decode cX6_workPair 150 = .ok (.lload 5, 2) := by decide +kernel
theorem dX6_workPair_152 : decode cX6_workPair 152 = .ok (.lload 7, 2) := by decide +kernel
theorem dX6_workPair_154 : decode cX6_workPair 154 = .ok (.ldiv, 1) := by decide +kernel
theorem dX6_workPair_155 : decode cX6_workPair 155 = .ok (.lreturn, 1) := by decide +kernel
theorem dX6_workPair_156 : decode cX6_workPair 156 = .ok (.lload 7, 2) := by decide +kernel
theorem dX6_workPair_158 : decode cX6_workPair 158 = .ok (.lconst 0, 1) := by decide +kernel
theorem dX6_workPair_159 : decode cX6_workPair 159 = .ok (.lcmp, 1) := by decide +kernel
theorem dX6_workPair_160 : decode cX6_workPair 160 = .ok (.ifCond .ne 12, 3) := by decide +kernel
theorem dX6_workPair_163 : decode cX6_workPair 163 = .ok (.aload_n 0, 1) := by decide +kernel
theorem dX6_workPair_164 : decode cX6_workPair 164 = .ok (.iload 4, 2) := by decide +kernel
theorem dX6_workPair_166 : decode cX6_workPair 166 = .ok (.invokevirtual 78, 3) := by decide +kernel
theorem dX6_workPair_169 : decode cX6_workPair 169 = .ok (.goto 8, 3) := by decide +kernel
theorem dX6_workPair_172 : decode cX6_workPair 172 = .ok (.lload 5, 2) := by decide +kernel
theorem dX6_workPair_174 : decode cX6_workPair 174 = .ok (.lload 7, 2) := by decide +kernel
theorem dX6_workPair_176 : decode cX6_workPair 176 = .ok (.lrem, 1) := by decide +kernel
theorem dX6_workPair_177 : decode cX6_workPair 177 = .ok (.lreturn, 1) := by decide +kernel
theorem dX6_workPair_178 : decode cX6_workPair 178 = .ok (.lload 5, 2) := by decide +kernel
theorem dX6_workPair_180 : decode cX6_workPair 180 = .ok (.lneg, 1) := by decide +kernel
theorem dX6_workPair_181 : decode cX6_workPair 181 = .ok (.lreturn, 1) := by decide +kernel
theorem dX6_workPair_182 : decode cX6_workPair 182 = .ok (.iload_n 1, 1) := by decide +kernel
theorem dX6_workPair_183 : decode cX6_workPair 183 = .ok (.lload 5, 2) := by decide +kernel
theorem dX6_workPair_185 : decode cX6_workPair 185 = .ok (.lload 7, 2) := by decide +kernel
theorem dX6_workPair_187 : decode cX6_workPair 187 = .ok (.invokestatic 96, 3) := by decide +kernel
theorem dX6_workPair_190 : decode cX6_workPair 190 = .ok (.ifCond .eq 7, 3) := by decide +kernel
theorem dX6_workPair_193 : decode cX6_workPair 193 = .ok (.lconst 1, 1) := by decide +kernel
theorem dX6_workPair_194 : decode cX6_workPair 194 = .ok (.goto 4, 3) := by decide +kernel
theorem dX6_workPair_197 : decode cX6_workPair 197 = .ok (.lconst 0, 1) := by decide +kernel
theorem dX6_workPair_198 : decode cX6_workPair 198 = .ok (.lreturn, 1) := by decide +kernel
theorem dX6_holds_0 : decode cX6_holds 0 = .ok (.iload_n 0, 1) := by decide +kernel
theorem dX6_holds_1 : decode cX6_holds 1 = .ok (.lookupswitch 143 #[(35, 71), (38, 107), (60, 83), (61, 59), (62, 95), (124, 125)], 59) := by decide +kernel
theorem dX6_holds_60 : decode cX6_holds 60 = .ok (.lload_n 1, 1) := by decide +kernel
theorem dX6_holds_61 : decode cX6_holds 61 = .ok (.lload_n 3, 1) := by decide +kernel
theorem dX6_holds_62 : decode cX6_holds 62 = .ok (.lcmp, 1) := by decide +kernel
theorem dX6_holds_63 : decode cX6_holds 63 = .ok (.ifCond .ne 7, 3) := by decide +kernel
theorem dX6_holds_66 : decode cX6_holds 66 = .ok (.iconst 1, 1) := by decide +kernel
theorem dX6_holds_67 : decode cX6_holds 67 = .ok (.goto 4, 3) := by decide +kernel
theorem dX6_holds_70 : decode cX6_holds 70 = .ok (.iconst 0, 1) := by decide +kernel
theorem dX6_holds_71 : decode cX6_holds 71 = .ok (.ireturn, 1) := by decide +kernel
theorem dX6_holds_72 : decode cX6_holds 72 = .ok (.lload_n 1, 1) := by decide +kernel
theorem dX6_holds_73 : decode cX6_holds 73 = .ok (.lload_n 3, 1) := by decide +kernel
theorem dX6_holds_74 : decode cX6_holds 74 = .ok (.lcmp, 1) := by decide +kernel
theorem dX6_holds_75 : decode cX6_holds 75 = .ok (.ifCond .eq 7, 3) := by decide +kernel
theorem dX6_holds_78 : decode cX6_holds 78 = .ok (.iconst 1, 1) := by decide +kernel
theorem dX6_holds_79 : decode cX6_holds 79 = .ok (.goto 4, 3) := by decide +kernel
theorem dX6_holds_82 : decode cX6_holds 82 = .ok (.iconst 0, 1) := by decide +kernel
theorem dX6_holds_83 : decode cX6_holds 83 = .ok (.ireturn, 1) := by decide +kernel
theorem dX6_holds_84 : decode cX6_holds 84 = .ok (.lload_n 1, 1) := by decide +kernel
theorem dX6_holds_85 : decode cX6_holds 85 = .ok (.lload_n 3, 1) := by decide +kernel
theorem dX6_holds_86 : decode cX6_holds 86 = .ok (.lcmp, 1) := by decide +kernel
theorem dX6_holds_87 : decode cX6_holds 87 = .ok (.ifCond .ge 7, 3) := by decide +kernel
theorem dX6_holds_90 : decode cX6_holds 90 = .ok (.iconst 1, 1) := by decide +kernel
theorem dX6_holds_91 : decode cX6_holds 91 = .ok (.goto 4, 3) := by decide +kernel
theorem dX6_holds_94 : decode cX6_holds 94 = .ok (.iconst 0, 1) := by decide +kernel
theorem dX6_holds_95 : decode cX6_holds 95 = .ok (.ireturn, 1) := by decide +kernel
theorem dX6_holds_96 : decode cX6_holds 96 = .ok (.lload_n 1, 1) := by decide +kernel
theorem dX6_holds_97 : decode cX6_holds 97 = .ok (.lload_n 3, 1) := by decide +kernel
theorem dX6_holds_98 : decode cX6_holds 98 = .ok (.lcmp, 1) := by decide +kernel
theorem dX6_holds_99 : decode cX6_holds 99 = .ok (.ifCond .le 7, 3) := by decide +kernel
theorem dX6_holds_102 : decode cX6_holds 102 = .ok (.iconst 1, 1) := by decide +kernel
theorem dX6_holds_103 : decode cX6_holds 103 = .ok (.goto 4, 3) := by decide +kernel
theorem dX6_holds_106 : decode cX6_holds 106 = .ok (.iconst 0, 1) := by decide +kernel
theorem dX6_holds_107 : decode cX6_holds 107 = .ok (.ireturn, 1) := by decide +kernel
theorem dX6_holds_108 : decode cX6_holds 108 = .ok (.lload_n 1, 1) := by decide +kernel
theorem dX6_holds_109 : decode cX6_holds 109 = .ok (.lconst 0, 1) := by decide +kernel
theorem dX6_holds_110 : decode cX6_holds 110 = .ok (.lcmp, 1) := by decide +kernel
theorem dX6_holds_111 : decode cX6_holds 111 = .ok (.ifCond .eq 13, 3) := by decide +kernel
theorem dX6_holds_114 : decode cX6_holds 114 = .ok (.lload_n 3, 1) := by decide +kernel
theorem dX6_holds_115 : decode cX6_holds 115 = .ok (.lconst 0, 1) := by decide +kernel
theorem dX6_holds_116 : decode cX6_holds 116 = .ok (.lcmp, 1) := by decide +kernel
theorem dX6_holds_117 : decode cX6_holds 117 = .ok (.ifCond .eq 7, 3) := by decide +kernel
theorem dX6_holds_120 : decode cX6_holds 120 = .ok (.iconst 1, 1) := by decide +kernel
theorem dX6_holds_121 : decode cX6_holds 121 = .ok (.goto 4, 3) := by decide +kernel
theorem dX6_holds_124 : decode cX6_holds 124 = .ok (.iconst 0, 1) := by decide +kernel
theorem dX6_holds_125 : decode cX6_holds 125 = .ok (.ireturn, 1) := by decide +kernel
theorem dX6_holds_126 : decode cX6_holds 126 = .ok (.lload_n 1, 1) := by decide +kernel
theorem dX6_holds_127 : decode cX6_holds 127 = .ok (.lconst 0, 1) := by decide +kernel
theorem dX6_holds_128 : decode cX6_holds 128 = .ok (.lcmp, 1) := by decide +kernel
theorem dX6_holds_129 : decode cX6_holds 129 = .ok (.ifCond .ne 9, 3) := by decide +kernel
theorem dX6_holds_132 : decode cX6_holds 132 = .ok (.lload_n 3, 1) := by decide +kernel
theorem dX6_holds_133 : decode cX6_holds 133 = .ok (.lconst 0, 1) := by decide +kernel
theorem dX6_holds_134 : decode cX6_holds 134 = .ok (.lcmp, 1) := by decide +kernel
theorem dX6_holds_135 : decode cX6_holds 135 = .ok (.ifCond .eq 7, 3) := by decide +kernel
theorem dX6_holds_138 : decode cX6_holds 138 = .ok (.iconst 1, 1) := by decide +kernel
theorem dX6_holds_139 : decode cX6_holds 139 = .ok (.goto 4, 3) := by decide +kernel
theorem dX6_holds_142 : decode cX6_holds 142 = .ok (.iconst 0, 1) := by decide +kernel
theorem dX6_holds_143 : decode cX6_holds 143 = .ok (.ireturn, 1) := by decide +kernel
theorem dX6_holds_144 : decode cX6_holds 144 = .ok (.lload_n 1, 1) := by decide +kernel
theorem dX6_holds_145 : decode cX6_holds 145 = .ok (.lconst 0, 1) := by decide +kernel
theorem dX6_holds_146 : decode cX6_holds 146 = .ok (.lcmp, 1) := by decide +kernel
theorem dX6_holds_147 : decode cX6_holds 147 = .ok (.ifCond .ne 7, 3) := by decide +kernel
theorem dX6_holds_150 : decode cX6_holds 150 = .ok (.iconst 1, 1) := by decide +kernel
theorem dX6_holds_151 : decode cX6_holds 151 = .ok (.goto 4, 3) := by decide +kernel
theorem dX6_holds_154 : decode cX6_holds 154 = .ok (.iconst 0, 1) := by decide +kernel
theorem dX6_holds_155 : decode cX6_holds 155 = .ok (.ireturn, 1) := by decide +kernel
theorem dX7_init_0 : decode cX7_init 0 = .ok (.aload_n 0, 1) := by decide +kernel
theorem dX7_init_1 : decode cX7_init 1 = .ok (.invokespecial 1, 3) := by decide +kernel
theorem dX7_init_4 : decode cX7_init 4 = .ok (.aload_n 0, 1) := by decide +kernel
theorem dX7_init_5 : decode cX7_init 5 = .ok (.new 7, 3) := by decide +kernel
theorem dX7_init_8 : decode cX7_init 8 = .ok (.dup, 1) := by decide +kernel
theorem dX7_init_9 : decode cX7_init 9 = .ok (.invokespecial 9, 3) := by decide +kernel
theorem dX7_init_12 : decode cX7_init 12 = .ok (.putfield 10, 3) := by decide +kernel
theorem dX7_init_15 : decode cX7_init 15 = .ok (.aload_n 0, 1) := by decide +kernel
theorem dX7_init_16 : decode cX7_init 16 = .ok (.new 16, 3) := by decide +kernel
theorem dX7_init_19 : decode cX7_init 19 = .ok (.dup, 1) := by decide +kernel
theorem dX7_init_20 : decode cX7_init 20 = .ok (.invokespecial 18, 3) := by decide +kernel
theorem dX7_init_23 : decode cX7_init 23 = .ok (.putfield 19, 3) := by decide +kernel
theorem dX7_init_26 : decode cX7_init 26 = .ok (.aload_n 0, 1) := by decide +kernel
theorem dX7_init_27 : decode cX7_init 27 = .ok (.new 23, 3) := by decide +kernel
theorem dX7_init_30 : decode cX7_init 30 = .ok (.dup, 1) := by decide +kernel
theorem dX7_init_31 : decode cX7_init 31 = .ok (.aload_n 0, 1) := by decide +kernel
theorem dX7_init_32 : decode cX7_init 32 = .ok (.getfield 19, 3) := by decide +kernel
theorem dX7_init_35 : decode cX7_init 35 = .ok (.invokespecial 25, 3) := by decide +kernel
theorem dX7_init_38 : decode cX7_init 38 = .ok (.putfield 28, 3) := by decide +kernel
theorem dX7_init_41 : decode cX7_init 41 = .ok (.aload_n 0, 1) := by decide +kernel
theorem dX7_init_42 : decode cX7_init 42 = .ok (.bipush 6, 2) := by decide +kernel
theorem dX7_init_44 : decode cX7_init 44 = .ok (.anewarray 32, 3) := by decide +kernel
theorem dX7_init_47 : decode cX7_init 47 = .ok (.putfield 34, 3) := by decide +kernel
theorem dX7_init_50 : decode cX7_init 50 = .ok (.new 38, 3) := by decide +kernel
theorem dX7_init_53 : decode cX7_init 53 = .ok (.dup, 1) := by decide +kernel
theorem dX7_init_54 : decode cX7_init 54 = .ok (.aload_n 0, 1) := by decide +kernel
theorem dX7_init_55 : decode cX7_init 55 = .ok (.getfield 10, 3) := by decide +kernel
theorem dX7_init_58 : decode cX7_init 58 = .ok (.invokespecial 40, 3) := by decide +kernel
theorem dX7_init_61 : decode cX7_init 61 = .ok (.astore_n 1, 1) := by decide +kernel
theorem dX7_init_62 : decode cX7_init 62 = .ok (.iconst 0, 1) := by decide +kernel
theorem dX7_init_63 : decode cX7_init 63 = .ok (.istore_n 2, 1) := by decide +kernel
theorem dX7_init_64 : decode cX7_init 64 = .ok (.iload_n 2, 1) := by decide +kernel
theorem dX7_init_65 : decode cX7_init 65 = .ok (.bipush 6, 2) := by decide +kernel
theorem dX7_init_67 : decode cX7_init 67 = .ok (.if_icmp .ge 27, 3) := by decide +kernel
theorem dX7_init_70 : decode cX7_init 70 = .ok (.aload_n 0, 1) := by decide +kernel
theorem dX7_init_71 : decode cX7_init 71 = .ok (.getfield 34, 3) := by decide +kernel
theorem dX7_init_74 : decode cX7_init 74 = .ok (.iload_n 2, 1) := by decide +kernel
theorem dX7_init_75 : decode cX7_init 75 = .ok (.new 32, 3) := by decide +kernel
theorem dX7_init_78 : decode cX7_init 78 = .ok (.dup, 1) := by decide +kernel
theorem dX7_init_79 : decode cX7_init 79 = .ok (.aload_n 0, 1) := by decide +kernel
theorem dX7_init_80 : decode cX7_init 80 = .ok (.getfield 10, 3) := by decide +kernel
theorem dX7_init_83 : decode cX7_init 83 = .ok (.aload_n 1, 1) := by decide +kernel
theorem dX7_init_84 : decode cX7_init 84 = .ok (.invokespecial 43, 3) := by decide +kernel
theorem dX7_init_87 : decode cX7_init 87 = .ok (.aastore, 1) := by decide +kernel
theorem dX7_init_88 : decode cX7_init 88 = .ok (.iinc 2 1, 3) := by decide +kernel
theorem dX7_init_91 : decode cX7_init 91 = .ok (.goto (-27), 3) := by decide +kernel
theorem dX7_init_94 : decode cX7_init 94 = .ok (.aload_n 0, 1) := by decide +kernel
theorem dX7_init_95 : decode cX7_init 95 = .ok (.iconst 0, 1) := by decide +kernel
theorem dX7_init_96 : decode cX7_init 96 = .ok (.putfield 46, 3) := by decide +kernel
theorem dX7_init_99 : decode cX7_init 99 = .ok (.return_, 1) := by decide +kernel
theorem dX7_object_0 : decode cX7_object 0 = .ok (.aload_n 0, 1) := by decide +kernel
theorem dX7_object_1 : decode cX7_object 1 = .ok (.getfield 10, 3) := by decide +kernel
theorem dX7_object_4 : decode cX7_object 4 = .ok (.iload_n 1, 1) := by decide +kernel
theorem dX7_object_5 : decode cX7_object 5 = .ok (.invokevirtual 50, 3) := by decide +kernel
theorem dX7_object_8 : decode cX7_object 8 = .ok (.istore_n 2, 1) := by decide +kernel
theorem dX7_object_9 : decode cX7_object 9 = .ok (.iload_n 2, 1) := by decide +kernel
theorem dX7_object_10 : decode cX7_object 10 = .ok (.iconst (-1), 1) := by decide +kernel
theorem dX7_object_11 : decode cX7_object 11 = .ok (.if_icmp .eq 9, 3) := by decide +kernel
theorem dX7_object_14 : decode cX7_object 14 = .ok (.aload_n 0, 1) := by decide +kernel
theorem dX7_object_15 : decode cX7_object 15 = .ok (.iload_n 2, 1) := by decide +kernel
theorem dX7_object_16 : decode cX7_object 16 = .ok (.invokevirtual 54, 3) := by decide +kernel
theorem dX7_object_19 : decode cX7_object 19 = .ok (.pop, 1) := by decide +kernel
theorem dX7_object_20 : decode cX7_object 20 = .ok (.iload_n 2, 1) := by decide +kernel
theorem dX7_object_21 : decode cX7_object 21 = .ok (.ireturn, 1) := by decide +kernel
theorem dX7_put_0 : decode cX7_put 0 = .ok (.aload_n 0, 1) := by decide +kernel
theorem dX7_put_1 : decode cX7_put 1 = .ok (.getfield 10, 3) := by decide +kernel
theorem dX7_put_4 : decode cX7_put 4 = .ok (.iload_n 1, 1) := by decide +kernel
theorem dX7_put_5 : decode cX7_put 5 = .ok (.iload_n 2, 1) := by decide +kernel
theorem dX7_put_6 : decode cX7_put 6 = .ok (.lload_n 3, 1) := by decide +kernel
theorem dX7_put_7 : decode cX7_put 7 = .ok (.invokevirtual 57, 3) := by decide +kernel
theorem dX7_put_10 : decode cX7_put 10 = .ok (.ifCond .eq 11, 3) := by decide +kernel
theorem dX7_put_13 : decode cX7_put 13 = .ok (.aload_n 0, 1) := by decide +kernel
theorem dX7_put_14 : decode cX7_put 14 = .ok (.iload_n 1, 1) := by decide +kernel
theorem dX7_put_15 : decode cX7_put 15 = .ok (.invokevirtual 54, 3) := by decide +kernel
theorem dX7_put_18 : decode cX7_put 18 = .ok (.goto 4, 3) := by decide +kernel
theorem dX7_put_21 : decode cX7_put 21 = .ok (.iconst (-1), 1) := by decide +kernel
theorem dX7_put_22 : decode cX7_put 22 = .ok (.ireturn, 1) := by decide +kernel
theorem dX7_refer_0 : decode cX7_refer 0 = .ok (.aload_n 0, 1) := by decide +kernel
theorem dX7_refer_1 : decode cX7_refer 1 = .ok (.getfield 10, 3) := by decide +kernel
theorem dX7_refer_4 : decode cX7_refer 4 = .ok (.iload_n 1, 1) := by decide +kernel
theorem dX7_refer_5 : decode cX7_refer 5 = .ok (.iload_n 2, 1) := by decide +kernel
theorem dX7_refer_6 : decode cX7_refer 6 = .ok (.invokevirtual 61, 3) := by decide +kernel
theorem dX7_refer_9 : decode cX7_refer 9 = .ok (.ifCond .eq 11, 3) := by decide +kernel
theorem dX7_refer_12 : decode cX7_refer 12 = .ok (.aload_n 0, 1) := by decide +kernel
theorem dX7_refer_13 : decode cX7_refer 13 = .ok (.iload_n 1, 1) := by decide +kernel
theorem dX7_refer_14 : decode cX7_refer 14 = .ok (.invokevirtual 54, 3) := by decide +kernel
theorem dX7_refer_17 : decode cX7_refer 17 = .ok (.goto 4, 3) := by decide +kernel
theorem dX7_refer_20 : decode cX7_refer 20 = .ok (.iconst (-1), 1) := by decide +kernel
theorem dX7_refer_21 : decode cX7_refer 21 = .ok (.ireturn, 1) := by decide +kernel
theorem dX7_row_0 : decode cX7_row 0 = .ok (.aload_n 0, 1) := by decide +kernel
theorem dX7_row_1 : decode cX7_row 1 = .ok (.getfield 10, 3) := by decide +kernel
theorem dX7_row_4 : decode cX7_row 4 = .ok (.iload_n 1, 1) := by decide +kernel
theorem dX7_row_5 : decode cX7_row 5 = .ok (.iload_n 2, 1) := by decide +kernel
theorem dX7_row_6 : decode cX7_row 6 = .ok (.invokevirtual 65, 3) := by decide +kernel
theorem dX7_row_9 : decode cX7_row 9 = .ok (.ifCond .eq 11, 3) := by decide +kernel
theorem dX7_row_12 : decode cX7_row 12 = .ok (.aload_n 0, 1) := by decide +kernel
theorem dX7_row_13 : decode cX7_row 13 = .ok (.iload_n 1, 1) := by decide +kernel
theorem dX7_row_14 : decode cX7_row 14 = .ok (.invokevirtual 54, 3) := by decide +kernel
theorem dX7_row_17 : decode cX7_row 17 = .ok (.goto 4, 3) := by decide +kernel
theorem dX7_row_20 : decode cX7_row 20 = .ok (.iconst (-1), 1) := by decide +kernel
theorem dX7_row_21 : decode cX7_row 21 = .ok (.ireturn, 1) := by decide +kernel
theorem dX7_item_0 : decode cX7_item 0 = .ok (.aload_n 0, 1) := by decide +kernel
theorem dX7_item_1 : decode cX7_item 1 = .ok (.getfield 10, 3) := by decide +kernel
theorem dX7_item_4 : decode cX7_item 4 = .ok (.iload_n 1, 1) := by decide +kernel
theorem dX7_item_5 : decode cX7_item 5 = .ok (.iload_n 2, 1) := by decide +kernel
theorem dX7_item_6 : decode cX7_item 6 = .ok (.lload_n 3, 1) := by decide +kernel
theorem dX7_item_7 : decode cX7_item 7 = .ok (.invokevirtual 68, 3) := by decide +kernel
theorem dX7_item_10 : decode cX7_item 10 = .ok (.ifCond .eq 11, 3) := by decide +kernel
theorem dX7_item_13 : decode cX7_item 13 = .ok (.aload_n 0, 1) := by decide +kernel
theorem dX7_item_14 : decode cX7_item 14 = .ok (.iload_n 1, 1) := by decide +kernel
theorem dX7_item_15 : decode cX7_item 15 = .ok (.invokevirtual 54, 3) := by decide +kernel
theorem dX7_item_18 : decode cX7_item 18 = .ok (.goto 4, 3) := by decide +kernel
theorem dX7_item_21 : decode cX7_item 21 = .ok (.iconst (-1), 1) := by decide +kernel
theorem dX7_item_22 : decode cX7_item 22 = .ok (.ireturn, 1) := by decide +kernel
theorem dX7_drop_0 : decode cX7_drop 0 = .ok (.aload_n 0, 1) := by decide +kernel
theorem dX7_drop_1 : decode cX7_drop 1 = .ok (.getfield 10, 3) := by decide +kernel
theorem dX7_drop_4 : decode cX7_drop 4 = .ok (.iload_n 1, 1) := by decide +kernel
theorem dX7_drop_5 : decode cX7_drop 5 = .ok (.invokevirtual 71, 3) := by decide +kernel
theorem dX7_drop_8 : decode cX7_drop 8 = .ok (.ifCond .eq 11, 3) := by decide +kernel
theorem dX7_drop_11 : decode cX7_drop 11 = .ok (.aload_n 0, 1) := by decide +kernel
theorem dX7_drop_12 : decode cX7_drop 12 = .ok (.iload_n 1, 1) := by decide +kernel
theorem dX7_drop_13 : decode cX7_drop 13 = .ok (.invokevirtual 54, 3) := by decide +kernel
theorem dX7_drop_16 : decode cX7_drop 16 = .ok (.goto 4, 3) := by decide +kernel
theorem dX7_drop_19 : decode cX7_drop 19 = .ok (.iconst (-1), 1) := by decide +kernel
theorem dX7_drop_20 : decode cX7_drop 20 = .ok (.ireturn, 1) := by decide +kernel
theorem dX7_type_0 : decode cX7_type 0 = .ok (.aload_n 0, 1) := by decide +kernel
theorem dX7_type_1 : decode cX7_type 1 = .ok (.getfield 19, 3) := by decide +kernel
theorem dX7_type_4 : decode cX7_type 4 = .ok (.lload_n 1, 1) := by decide +kernel
theorem dX7_type_5 : decode cX7_type 5 = .ok (.iload_n 3, 1) := by decide +kernel
theorem dX7_type_6 : decode cX7_type 6 = .ok (.invokevirtual 75, 3) := by decide +kernel
theorem dX7_type_9 : decode cX7_type 9 = .ok (.ireturn, 1) := by decide +kernel
theorem dX7_query_0 : decode cX7_query 0 = .ok (.aload_n 0, 1) := by decide +kernel
theorem dX7_query_1 : decode cX7_query 1 = .ok (.getfield 46, 3) := by decide +kernel
theorem dX7_query_4 : decode cX7_query 4 = .ok (.bipush 6, 2) := by decide +kernel
theorem dX7_query_6 : decode cX7_query 6 = .ok (.if_icmp .lt 20, 3) := by decide +kernel
theorem dX7_query_9 : decode cX7_query 9 = .ok (.aload_n 0, 1) := by decide +kernel
theorem dX7_query_10 : decode cX7_query 10 = .ok (.getfield 19, 3) := by decide +kernel
theorem dX7_query_13 : decode cX7_query 13 = .ok (.invokevirtual 79, 3) := by decide +kernel
theorem dX7_query_16 : decode cX7_query 16 = .ok (.new 82, 3) := by decide +kernel
theorem dX7_query_19 : decode cX7_query 19 = .ok (.dup, 1) := by decide +kernel
theorem dX7_query_20 : decode cX7_query 20 = .ok (.ldc 84, 2) := by decide +kernel
theorem dX7_query_22 : decode cX7_query 22 = .ok (.invokespecial 86, 3) := by decide +kernel
theorem dX7_query_25 : decode cX7_query 25 = .ok (.athrow, 1) := by decide +kernel
theorem dX7_query_26 : decode cX7_query 26 = .ok (.aload_n 0, 1) := by decide +kernel
theorem dX7_query_27 : decode cX7_query 27 = .ok (.getfield 34, 3) := by decide +kernel
theorem dX7_query_30 : decode cX7_query 30 = .ok (.aload_n 0, 1) := by decide +kernel
theorem dX7_query_31 : decode cX7_query 31 = .ok (.getfield 46, 3) := by decide +kernel
theorem dX7_query_34 : decode cX7_query 34 = .ok (.aaload, 1) := by decide +kernel
theorem dX7_query_35 : decode cX7_query 35 = .ok (.astore_n 1, 1) := by decide +kernel
theorem dX7_query_36 : decode cX7_query 36 = .ok (.aload_n 0, 1) := by decide +kernel
theorem dX7_query_37 : decode cX7_query 37 = .ok (.getfield 28, 3) := by decide +kernel
theorem dX7_query_40 : decode cX7_query 40 = .ok (.aload_n 1, 1) := by decide +kernel
theorem dX7_query_41 : decode cX7_query 41 = .ok (.getfield 89, 3) := by decide +kernel
theorem dX7_query_44 : decode cX7_query 44 = .ok (.invokevirtual 93, 3) := by decide +kernel
theorem dX7_query_47 : decode cX7_query 47 = .ok (.istore_n 2, 1) := by decide +kernel
theorem dX7_query_48 : decode cX7_query 48 = .ok (.aload_n 0, 1) := by decide +kernel
theorem dX7_query_49 : decode cX7_query 49 = .ok (.getfield 19, 3) := by decide +kernel
theorem dX7_query_52 : decode cX7_query 52 = .ok (.invokevirtual 79, 3) := by decide +kernel
theorem dX7_query_55 : decode cX7_query 55 = .ok (.iload_n 2, 1) := by decide +kernel
theorem dX7_query_56 : decode cX7_query 56 = .ok (.iconst (-1), 1) := by decide +kernel
theorem dX7_query_57 : decode cX7_query 57 = .ok (.if_icmp .eq 7, 3) := by decide +kernel
theorem dX7_query_60 : decode cX7_query 60 = .ok (.iconst (-1), 1) := by decide +kernel
theorem dX7_query_61 : decode cX7_query 61 = .ok (.iload_n 2, 1) := by decide +kernel
theorem dX7_query_62 : decode cX7_query 62 = .ok (.isub, 1) := by decide +kernel
theorem dX7_query_63 : decode cX7_query 63 = .ok (.ireturn, 1) := by decide +kernel
theorem dX7_query_64 : decode cX7_query 64 = .ok (.aload_n 1, 1) := by decide +kernel
theorem dX7_query_65 : decode cX7_query 65 = .ok (.invokevirtual 97, 3) := by decide +kernel
theorem dX7_query_68 : decode cX7_query 68 = .ok (.aload_n 0, 1) := by decide +kernel
theorem dX7_query_69 : decode cX7_query 69 = .ok (.dup, 1) := by decide +kernel
theorem dX7_query_70 : decode cX7_query 70 = .ok (.getfield 46, 3) := by decide +kernel
theorem dX7_query_73 : decode cX7_query 73 = .ok (.iconst 1, 1) := by decide +kernel
theorem dX7_query_74 : decode cX7_query 74 = .ok (.iadd, 1) := by decide +kernel
theorem dX7_query_75 : decode cX7_query 75 = .ok (.putfield 46, 3) := by decide +kernel
theorem dX7_query_78 : decode cX7_query 78 = .ok (.aload_n 0, 1) := by decide +kernel
theorem dX7_query_79 : decode cX7_query 79 = .ok (.getfield 46, 3) := by decide +kernel
theorem dX7_query_82 : decode cX7_query 82 = .ok (.iconst 1, 1) := by decide +kernel
theorem dX7_query_83 : decode cX7_query 83 = .ok (.isub, 1) := by decide +kernel
theorem dX7_query_84 : decode cX7_query 84 = .ok (.ireturn, 1) := by decide +kernel
theorem dX7_size_0 : decode cX7_size 0 = .ok (.aload_n 0, 1) := by decide +kernel
theorem dX7_size_1 : decode cX7_size 1 = .ok (.iload_n 1, 1) := by decide +kernel
theorem dX7_size_2 : decode cX7_size 2 = .ok (.invokevirtual 100, 3) := by decide +kernel
theorem dX7_size_5 : decode cX7_size 5 = .ok (.ifCond .ne 5, 3) := by decide +kernel
theorem dX7_size_8 : decode cX7_size 8 = .ok (.iconst (-1), 1) := by decide +kernel
theorem dX7_size_9 : decode cX7_size 9 = .ok (.ireturn, 1) := by decide +kernel
theorem dX7_size_10 : decode cX7_size 10 = .ok (.aload_n 0, 1) := by decide +kernel
theorem dX7_size_11 : decode cX7_size 11 = .ok (.getfield 34, 3) := by decide +kernel
theorem dX7_size_14 : decode cX7_size 14 = .ok (.iload_n 1, 1) := by decide +kernel
theorem dX7_size_15 : decode cX7_size 15 = .ok (.aaload, 1) := by decide +kernel
theorem dX7_size_16 : decode cX7_size 16 = .ok (.astore_n 3, 1) := by decide +kernel
theorem dX7_size_17 : decode cX7_size 17 = .ok (.iload_n 2, 1) := by decide +kernel
theorem dX7_size_18 : decode cX7_size 18 = .ok (.tableswitch 44 0 2 #[26, 31, 36], 26) := by decide +kernel
theorem dX7_size_44 : decode cX7_size 44 = .ok (.aload_n 3, 1) := by decide +kernel
theorem dX7_size_45 : decode cX7_size 45 = .ok (.invokevirtual 103, 3) := by decide +kernel
theorem dX7_size_48 : decode cX7_size 48 = .ok (.ireturn, 1) := by decide +kernel
theorem dX7_size_49 : decode cX7_size 49 = .ok (.aload_n 3, 1) := by decide +kernel
theorem dX7_size_50 : decode cX7_size 50 = .ok (.invokevirtual 107, 3) := by decide +kernel
theorem dX7_size_53 : decode cX7_size 53 = .ok (.ireturn, 1) := by decide +kernel
theorem dX7_size_54 : decode cX7_size 54 = .ok (.aload_n 3, 1) := by decide +kernel
theorem dX7_size_55 : decode cX7_size 55 = .ok (.getfield 110, 3) := by decide +kernel
theorem dX7_size_58 : decode cX7_size 58 = .ok (.invokevirtual 114, 3) := by decide +kernel
theorem dX7_size_61 : decode cX7_size 61 = .ok (.ireturn, 1) := by decide +kernel
theorem dX7_size_62 : decode cX7_size 62 = .ok (.iconst (-1), 1) := by decide +kernel
theorem dX7_size_63 : decode cX7_size 63 = .ok (.ireturn, 1) := by decide +kernel
theorem dX7_got_0 : decode cX7_got 0 = .ok (.aload_n 0, 1) := by decide +kernel
theorem dX7_got_1 : decode cX7_got 1 = .ok (.iload_n 1, 1) := by decide +kernel
theorem dX7_got_2 : decode cX7_got 2 = .ok (.invokevirtual 100, 3) := by decide +kernel
theorem dX7_got_5 : decode cX7_got 5 = .ok (.ifCond .eq 16, 3) := by decide +kernel
theorem dX7_got_8 : decode cX7_got 8 = .ok (.aload_n 0, 1) := by decide +kernel
theorem dX7_got_9 : decode cX7_got 9 = .ok (.getfield 34, 3) := by decide +kernel
theorem dX7_got_12 : decode cX7_got 12 = .ok (.iload_n 1, 1) := by decide +kernel
theorem dX7_got_13 : decode cX7_got 13 = .ok (.aaload, 1) := by decide +kernel
theorem dX7_got_14 : decode cX7_got 14 = .ok (.iload_n 2, 1) := by decide +kernel
theorem dX7_got_15 : decode cX7_got 15 = .ok (.invokevirtual 119, 3) := by decide +kernel
theorem dX7_got_18 : decode cX7_got 18 = .ok (.goto 4, 3) := by decide +kernel
theorem dX7_got_21 : decode cX7_got 21 = .ok (.iconst (-1), 1) := by decide +kernel
theorem dX7_got_22 : decode cX7_got 22 = .ok (.ireturn, 1) := by decide +kernel
theorem dX7_key_0 : decode cX7_key 0 = .ok (.aload_n 0, 1) := by decide +kernel
theorem dX7_key_1 : decode cX7_key 1 = .ok (.iload_n 1, 1) := by decide +kernel
theorem dX7_key_2 : decode cX7_key 2 = .ok (.iload_n 2, 1) := by decide +kernel
theorem dX7_key_3 : decode cX7_key 3 = .ok (.invokevirtual 122, 3) := by decide +kernel
theorem dX7_key_6 : decode cX7_key 6 = .ok (.istore_n 3, 1) := by decide +kernel
theorem dX7_key_7 : decode cX7_key 7 = .ok (.iload_n 3, 1) := by decide +kernel
theorem dX7_key_8 : decode cX7_key 8 = .ok (.iconst (-1), 1) := by decide +kernel
theorem dX7_key_9 : decode cX7_key 9 = .ok (.if_icmp .ne 13, 3) := by decide +kernel
theorem dX7_key_12 : decode cX7_key 12 = .ok (.new 126, 3) := by decide +kernel
theorem dX7_key_15 : decode cX7_key 15 = .ok (.dup, 1) := by decide +kernel
theorem dX7_key_16 : decode cX7_key 16 = .ok (.ldc 128, 2) := by decide +kernel
theorem dX7_key_18 : decode cX7_key 18 = .ok (.invokespecial 130, 3) := by decide +kernel
theorem dX7_key_21 : decode cX7_key 21 = .ok (.athrow, 1) := by decide +kernel
theorem dX7_key_22 : decode cX7_key 22 = .ok (.aload_n 0, 1) := by decide +kernel
theorem dX7_key_23 : decode cX7_key 23 = .ok (.getfield 34, 3) := by decide +kernel
theorem dX7_key_26 : decode cX7_key 26 = .ok (.iload_n 1, 1) := by decide +kernel
theorem dX7_key_27 : decode cX7_key 27 = .ok (.aaload, 1) := by decide +kernel
theorem dX7_key_28 : decode cX7_key 28 = .ok (.iload_n 3, 1) := by decide +kernel
theorem dX7_key_29 : decode cX7_key 29 = .ok (.invokevirtual 131, 3) := by decide +kernel
theorem dX7_key_32 : decode cX7_key 32 = .ok (.lreturn, 1) := by decide +kernel
theorem dX7_group_0 : decode cX7_group 0 = .ok (.aload_n 0, 1) := by decide +kernel
theorem dX7_group_1 : decode cX7_group 1 = .ok (.iload_n 1, 1) := by decide +kernel
theorem dX7_group_2 : decode cX7_group 2 = .ok (.invokevirtual 100, 3) := by decide +kernel
theorem dX7_group_5 : decode cX7_group 5 = .ok (.ifCond .eq 19, 3) := by decide +kernel
theorem dX7_group_8 : decode cX7_group 8 = .ok (.aload_n 0, 1) := by decide +kernel
theorem dX7_group_9 : decode cX7_group 9 = .ok (.getfield 34, 3) := by decide +kernel
theorem dX7_group_12 : decode cX7_group 12 = .ok (.iload_n 1, 1) := by decide +kernel
theorem dX7_group_13 : decode cX7_group 13 = .ok (.aaload, 1) := by decide +kernel
theorem dX7_group_14 : decode cX7_group 14 = .ok (.getfield 110, 3) := by decide +kernel
theorem dX7_group_17 : decode cX7_group 17 = .ok (.iload_n 2, 1) := by decide +kernel
theorem dX7_group_18 : decode cX7_group 18 = .ok (.invokevirtual 135, 3) := by decide +kernel
theorem dX7_group_21 : decode cX7_group 21 = .ok (.ifCond .ne 13, 3) := by decide +kernel
theorem dX7_group_24 : decode cX7_group 24 = .ok (.new 126, 3) := by decide +kernel
theorem dX7_group_27 : decode cX7_group 27 = .ok (.dup, 1) := by decide +kernel
theorem dX7_group_28 : decode cX7_group 28 = .ok (.ldc 138, 2) := by decide +kernel
theorem dX7_group_30 : decode cX7_group 30 = .ok (.invokespecial 130, 3) := by decide +kernel
theorem dX7_group_33 : decode cX7_group 33 = .ok (.athrow, 1) := by decide +kernel
theorem dX7_group_34 : decode cX7_group 34 = .ok (.aload_n 0, 1) := by decide +kernel
theorem dX7_group_35 : decode cX7_group 35 = .ok (.getfield 34, 3) := by decide +kernel
theorem dX7_group_38 : decode cX7_group 38 = .ok (.iload_n 1, 1) := by decide +kernel
theorem dX7_group_39 : decode cX7_group 39 = .ok (.aaload, 1) := by decide +kernel
theorem dX7_group_40 : decode cX7_group 40 = .ok (.getfield 110, 3) := by decide +kernel
theorem dX7_group_43 : decode cX7_group 43 = .ok (.astore 4, 2) := by decide +kernel
theorem dX7_group_45 : decode cX7_group 45 = .ok (.iload_n 3, 1) := by decide +kernel
theorem dX7_group_46 : decode cX7_group 46 = .ok (.tableswitch 58 0 3 #[30, 37, 44, 51], 30) := by decide +kernel
theorem dX7_group_76 : decode cX7_group 76 = .ok (.aload 4, 2) := by decide +kernel
theorem dX7_group_78 : decode cX7_group 78 = .ok (.iload_n 2, 1) := by decide +kernel
theorem dX7_group_79 : decode cX7_group 79 = .ok (.invokevirtual 140, 3) := by decide +kernel
theorem dX7_group_82 : decode cX7_group 82 = .ok (.lreturn, 1) := by decide +kernel
theorem dX7_group_83 : decode cX7_group 83 = .ok (.aload 4, 2) := by decide +kernel
theorem dX7_group_85 : decode cX7_group 85 = .ok (.iload_n 2, 1) := by decide +kernel
theorem dX7_group_86 : decode cX7_group 86 = .ok (.invokevirtual 143, 3) := by decide +kernel
theorem dX7_group_89 : decode cX7_group 89 = .ok (.lreturn, 1) := by decide +kernel
theorem dX7_group_90 : decode cX7_group 90 = .ok (.aload 4, 2) := by decide +kernel
theorem dX7_group_92 : decode cX7_group 92 = .ok (.iload_n 2, 1) := by decide +kernel
theorem dX7_group_93 : decode cX7_group 93 = .ok (.invokevirtual 146, 3) := by decide +kernel
theorem dX7_group_96 : decode cX7_group 96 = .ok (.lreturn, 1) := by decide +kernel
theorem dX7_group_97 : decode cX7_group 97 = .ok (.aload 4, 2) := by decide +kernel
theorem dX7_group_99 : decode cX7_group 99 = .ok (.iload_n 2, 1) := by decide +kernel
theorem dX7_group_100 : decode cX7_group 100 = .ok (.invokevirtual 149, 3) := by decide +kernel
theorem dX7_group_103 : decode cX7_group 103 = .ok (.lreturn, 1) := by decide +kernel
theorem dX7_group_104 : decode cX7_group 104 = .ok (.new 126, 3) := by decide +kernel
theorem dX7_group_107 : decode cX7_group 107 = .ok (.dup, 1) := by decide +kernel
theorem dX7_group_108 : decode cX7_group 108 = .ok (.ldc 152, 2) := by decide +kernel
theorem dX7_group_110 : decode cX7_group 110 = .ok (.invokespecial 130, 3) := by decide +kernel
theorem dX7_group_113 : decode cX7_group 113 = .ok (.athrow, 1) := by decide +kernel
theorem dX7_differ_0 : decode cX7_differ 0 = .ok (.iload_n 1, 1) := by decide +kernel
theorem dX7_differ_1 : decode cX7_differ 1 = .ok (.ifCond .ge 5, 3) := by decide +kernel
theorem dX7_differ_4 : decode cX7_differ 4 = .ok (.iconst (-1), 1) := by decide +kernel
theorem dX7_differ_5 : decode cX7_differ 5 = .ok (.ireturn, 1) := by decide +kernel
theorem dX7_differ_6 : decode cX7_differ 6 = .ok (.iload_n 1, 1) := by decide +kernel
theorem dX7_differ_7 : decode cX7_differ 7 = .ok (.istore_n 3, 1) := by decide +kernel
theorem dX7_differ_8 : decode cX7_differ 8 = .ok (.iconst 0, 1) := by decide +kernel
theorem dX7_differ_9 : decode cX7_differ 9 = .ok (.istore 4, 2) := by decide +kernel
theorem dX7_differ_11 : decode cX7_differ 11 = .ok (.iload 4, 2) := by decide +kernel
theorem dX7_differ_13 : decode cX7_differ 13 = .ok (.aload_n 0, 1) := by decide +kernel
theorem dX7_differ_14 : decode cX7_differ 14 = .ok (.getfield 46, 3) := by decide +kernel
theorem dX7_differ_17 : decode cX7_differ 17 = .ok (.if_icmp .ge 41, 3) := by decide +kernel
theorem dX7_differ_20 : decode cX7_differ 20 = .ok (.aload_n 0, 1) := by decide +kernel
theorem dX7_differ_21 : decode cX7_differ 21 = .ok (.getfield 34, 3) := by decide +kernel
theorem dX7_differ_24 : decode cX7_differ 24 = .ok (.iload 4, 2) := by decide +kernel
theorem dX7_differ_26 : decode cX7_differ 26 = .ok (.aaload, 1) := by decide +kernel
theorem dX7_differ_27 : decode cX7_differ 27 = .ok (.invokevirtual 154, 3) := by decide +kernel
theorem dX7_differ_30 : decode cX7_differ 30 = .ok (.istore 5, 2) := by decide +kernel
theorem dX7_differ_32 : decode cX7_differ 32 = .ok (.iload_n 3, 1) := by decide +kernel
theorem dX7_differ_33 : decode cX7_differ 33 = .ok (.iload 5, 2) := by decide +kernel
theorem dX7_differ_35 : decode cX7_differ 35 = .ok (.if_icmp .ge 12, 3) := by decide +kernel
theorem dX7_differ_38 : decode cX7_differ 38 = .ok (.aload_n 0, 1) := by decide +kernel
theorem dX7_differ_39 : decode cX7_differ 39 = .ok (.iload 4, 2) := by decide +kernel
theorem dX7_differ_41 : decode cX7_differ 41 = .ok (.iload_n 3, 1) := by decide +kernel
theorem dX7_differ_42 : decode cX7_differ 42 = .ok (.iload_n 2, 1) := by decide +kernel
theorem dX7_differ_43 : decode cX7_differ 43 = .ok (.invokevirtual 157, 3) := by decide +kernel
theorem dX7_differ_46 : decode cX7_differ 46 = .ok (.ireturn, 1) := by decide +kernel
theorem dX7_differ_47 : decode cX7_differ 47 = .ok (.iload_n 3, 1) := by decide +kernel
theorem dX7_differ_48 : decode cX7_differ 48 = .ok (.iload 5, 2) := by decide +kernel
theorem dX7_differ_50 : decode cX7_differ 50 = .ok (.isub, 1) := by decide +kernel
theorem dX7_differ_51 : decode cX7_differ 51 = .ok (.istore_n 3, 1) := by decide +kernel
theorem dX7_differ_52 : decode cX7_differ 52 = .ok (.iinc 4 1, 3) := by decide +kernel
theorem dX7_differ_55 : decode cX7_differ 55 = .ok (.goto (-44), 3) := by decide +kernel
theorem dX7_differ_58 : decode cX7_differ 58 = .ok (.iconst (-1), 1) := by decide +kernel
theorem dX7_differ_59 : decode cX7_differ 59 = .ok (.ireturn, 1) := by decide +kernel
theorem dX7_uses_0 : decode cX7_uses 0 = .ok (.aload_n 0, 1) := by decide +kernel
theorem dX7_uses_1 : decode cX7_uses 1 = .ok (.iload_n 1, 1) := by decide +kernel
theorem dX7_uses_2 : decode cX7_uses 2 = .ok (.invokevirtual 100, 3) := by decide +kernel
theorem dX7_uses_5 : decode cX7_uses 5 = .ok (.ifCond .eq 27, 3) := by decide +kernel
theorem dX7_uses_8 : decode cX7_uses 8 = .ok (.aload_n 0, 1) := by decide +kernel
theorem dX7_uses_9 : decode cX7_uses 9 = .ok (.getfield 10, 3) := by decide +kernel
theorem dX7_uses_12 : decode cX7_uses 12 = .ok (.iload_n 2, 1) := by decide +kernel
theorem dX7_uses_13 : decode cX7_uses 13 = .ok (.invokevirtual 161, 3) := by decide +kernel
theorem dX7_uses_16 : decode cX7_uses 16 = .ok (.ifCond .eq 16, 3) := by decide +kernel
theorem dX7_uses_19 : decode cX7_uses 19 = .ok (.aload_n 0, 1) := by decide +kernel
theorem dX7_uses_20 : decode cX7_uses 20 = .ok (.getfield 34, 3) := by decide +kernel
theorem dX7_uses_23 : decode cX7_uses 23 = .ok (.iload_n 1, 1) := by decide +kernel
theorem dX7_uses_24 : decode cX7_uses 24 = .ok (.aaload, 1) := by decide +kernel
theorem dX7_uses_25 : decode cX7_uses 25 = .ok (.iload_n 2, 1) := by decide +kernel
theorem dX7_uses_26 : decode cX7_uses 26 = .ok (.invokevirtual 164, 3) := by decide +kernel
theorem dX7_uses_29 : decode cX7_uses 29 = .ok (.goto 4, 3) := by decide +kernel
theorem dX7_uses_32 : decode cX7_uses 32 = .ok (.iconst (-1), 1) := by decide +kernel
theorem dX7_uses_33 : decode cX7_uses 33 = .ok (.ireturn, 1) := by decide +kernel
theorem dX7_look_0 : decode cX7_look 0 = .ok (.aload_n 0, 1) := by decide +kernel
theorem dX7_look_1 : decode cX7_look 1 = .ok (.getfield 10, 3) := by decide +kernel
theorem dX7_look_4 : decode cX7_look 4 = .ok (.iload_n 1, 1) := by decide +kernel
theorem dX7_look_5 : decode cX7_look 5 = .ok (.invokevirtual 161, 3) := by decide +kernel
theorem dX7_look_8 : decode cX7_look 8 = .ok (.ifCond .ne 13, 3) := by decide +kernel
theorem dX7_look_11 : decode cX7_look 11 = .ok (.new 126, 3) := by decide +kernel
theorem dX7_look_14 : decode cX7_look 14 = .ok (.dup, 1) := by decide +kernel
theorem dX7_look_15 : decode cX7_look 15 = .ok (.ldc 167, 2) := by decide +kernel
theorem dX7_look_17 : decode cX7_look 17 = .ok (.invokespecial 130, 3) := by decide +kernel
theorem dX7_look_20 : decode cX7_look 20 = .ok (.athrow, 1) := by decide +kernel
theorem dX7_look_21 : decode cX7_look 21 = .ok (.iload_n 2, 1) := by decide +kernel
theorem dX7_look_22 : decode cX7_look 22 = .ok (.bipush 10, 2) := by decide +kernel
theorem dX7_look_24 : decode cX7_look 24 = .ok (.if_icmp .lt 32, 3) := by decide +kernel
theorem dX7_look_27 : decode cX7_look 27 = .ok (.aload_n 0, 1) := by decide +kernel
theorem dX7_look_28 : decode cX7_look 28 = .ok (.getfield 10, 3) := by decide +kernel
theorem dX7_look_31 : decode cX7_look 31 = .ok (.iload_n 1, 1) := by decide +kernel
theorem dX7_look_32 : decode cX7_look 32 = .ok (.iload_n 2, 1) := by decide +kernel
theorem dX7_look_33 : decode cX7_look 33 = .ok (.bipush 10, 2) := by decide +kernel
theorem dX7_look_35 : decode cX7_look 35 = .ok (.isub, 1) := by decide +kernel
theorem dX7_look_36 : decode cX7_look 36 = .ok (.i2l, 1) := by decide +kernel
theorem dX7_look_37 : decode cX7_look 37 = .ok (.invokevirtual 169, 3) := by decide +kernel
theorem dX7_look_40 : decode cX7_look 40 = .ok (.ifCond .eq 16, 3) := by decide +kernel
theorem dX7_look_43 : decode cX7_look 43 = .ok (.aload_n 0, 1) := by decide +kernel
theorem dX7_look_44 : decode cX7_look 44 = .ok (.getfield 10, 3) := by decide +kernel
theorem dX7_look_47 : decode cX7_look 47 = .ok (.iload_n 1, 1) := by decide +kernel
theorem dX7_look_48 : decode cX7_look 48 = .ok (.iload_n 2, 1) := by decide +kernel
theorem dX7_look_49 : decode cX7_look 49 = .ok (.bipush 10, 2) := by decide +kernel
theorem dX7_look_51 : decode cX7_look 51 = .ok (.isub, 1) := by decide +kernel
theorem dX7_look_52 : decode cX7_look 52 = .ok (.invokevirtual 173, 3) := by decide +kernel
theorem dX7_look_55 : decode cX7_look 55 = .ok (.lreturn, 1) := by decide +kernel
theorem dX7_look_56 : decode cX7_look 56 = .ok (.iload_n 2, 1) := by decide +kernel
theorem dX7_look_57 : decode cX7_look 57 = .ok (.tableswitch 79 0 5 #[39, 39, 39, 49, 59, 69], 39) := by decide +kernel
theorem dX7_look_96 : decode cX7_look 96 = .ok (.aload_n 0, 1) := by decide +kernel
theorem dX7_look_97 : decode cX7_look 97 = .ok (.getfield 10, 3) := by decide +kernel
theorem dX7_look_100 : decode cX7_look 100 = .ok (.iload_n 1, 1) := by decide +kernel
theorem dX7_look_101 : decode cX7_look 101 = .ok (.iload_n 2, 1) := by decide +kernel
theorem dX7_look_102 : decode cX7_look 102 = .ok (.invokevirtual 177, 3) := by decide +kernel
theorem dX7_look_105 : decode cX7_look 105 = .ok (.lreturn, 1) := by decide +kernel
theorem dX7_look_106 : decode cX7_look 106 = .ok (.aload_n 0, 1) := by decide +kernel
theorem dX7_look_107 : decode cX7_look 107 = .ok (.getfield 10, 3) := by decide +kernel
theorem dX7_look_110 : decode cX7_look 110 = .ok (.iload_n 1, 1) := by decide +kernel
theorem dX7_look_111 : decode cX7_look 111 = .ok (.invokevirtual 180, 3) := by decide +kernel
theorem dX7_look_114 : decode cX7_look 114 = .ok (.i2l, 1) := by decide +kernel
theorem dX7_look_115 : decode cX7_look 115 = .ok (.lreturn, 1) := by decide +kernel
theorem dX7_look_116 : decode cX7_look 116 = .ok (.aload_n 0, 1) := by decide +kernel
theorem dX7_look_117 : decode cX7_look 117 = .ok (.getfield 10, 3) := by decide +kernel
theorem dX7_look_120 : decode cX7_look 120 = .ok (.iload_n 1, 1) := by decide +kernel
theorem dX7_look_121 : decode cX7_look 121 = .ok (.invokevirtual 183, 3) := by decide +kernel
theorem dX7_look_124 : decode cX7_look 124 = .ok (.i2l, 1) := by decide +kernel
theorem dX7_look_125 : decode cX7_look 125 = .ok (.lreturn, 1) := by decide +kernel
theorem dX7_look_126 : decode cX7_look 126 = .ok (.aload_n 0, 1) := by decide +kernel
theorem dX7_look_127 : decode cX7_look 127 = .ok (.getfield 10, 3) := by decide +kernel
theorem dX7_look_130 : decode cX7_look 130 = .ok (.iload_n 1, 1) := by decide +kernel
theorem dX7_look_131 : decode cX7_look 131 = .ok (.invokevirtual 186, 3) := by decide +kernel
theorem dX7_look_134 : decode cX7_look 134 = .ok (.i2l, 1) := by decide +kernel
theorem dX7_look_135 : decode cX7_look 135 = .ok (.lreturn, 1) := by decide +kernel
theorem dX7_look_136 : decode cX7_look 136 = .ok (.new 126, 3) := by decide +kernel
theorem dX7_look_139 : decode cX7_look 139 = .ok (.dup, 1) := by decide +kernel
theorem dX7_look_140 : decode cX7_look 140 = .ok (.ldc 189, 2) := by decide +kernel
theorem dX7_look_142 : decode cX7_look 142 = .ok (.invokespecial 130, 3) := by decide +kernel
theorem dX7_look_145 : decode cX7_look 145 = .ok (.athrow, 1) := by decide +kernel
theorem dX7_isQuery_0 : decode cX7_isQuery 0 = .ok (.iload_n 1, 1) := by decide +kernel
theorem dX7_isQuery_1 : decode cX7_isQuery 1 = .ok (.ifCond .lt 15, 3) := by decide +kernel
theorem dX7_isQuery_4 : decode cX7_isQuery 4 = .ok (.iload_n 1, 1) := by decide +kernel
theorem dX7_isQuery_5 : decode cX7_isQuery 5 = .ok (.aload_n 0, 1) := by decide +kernel
theorem dX7_isQuery_6 : decode cX7_isQuery 6 = .ok (.getfield 46, 3) := by decide +kernel
theorem dX7_isQuery_9 : decode cX7_isQuery 9 = .ok (.if_icmp .ge 7, 3) := by decide +kernel
theorem dX7_isQuery_12 : decode cX7_isQuery 12 = .ok (.iconst 1, 1) := by decide +kernel
theorem dX7_isQuery_13 : decode cX7_isQuery 13 = .ok (.goto 4, 3) := by decide +kernel
theorem dX7_isQuery_16 : decode cX7_isQuery 16 = .ok (.iconst 0, 1) := by decide +kernel
theorem dX7_isQuery_17 : decode cX7_isQuery 17 = .ok (.ireturn, 1) := by decide +kernel
theorem dX7_follow_0 : decode cX7_follow 0 = .ok (.iconst 0, 1) := by decide +kernel
theorem dX7_follow_1 : decode cX7_follow 1 = .ok (.istore_n 2, 1) := by decide +kernel
theorem dX7_follow_2 : decode cX7_follow 2 = .ok (.iconst 0, 1) := by decide +kernel
theorem dX7_follow_3 : decode cX7_follow 3 = .ok (.istore_n 3, 1) := by decide +kernel
theorem dX7_follow_4 : decode cX7_follow 4 = .ok (.iload_n 3, 1) := by decide +kernel
theorem dX7_follow_5 : decode cX7_follow 5 = .ok (.aload_n 0, 1) := by decide +kernel
theorem dX7_follow_6 : decode cX7_follow 6 = .ok (.getfield 46, 3) := by decide +kernel
theorem dX7_follow_9 : decode cX7_follow 9 = .ok (.if_icmp .ge 31, 3) := by decide +kernel
theorem dX7_follow_12 : decode cX7_follow 12 = .ok (.aload_n 0, 1) := by decide +kernel
theorem dX7_follow_13 : decode cX7_follow 13 = .ok (.getfield 34, 3) := by decide +kernel
theorem dX7_follow_16 : decode cX7_follow 16 = .ok (.iload_n 3, 1) := by decide +kernel
theorem dX7_follow_17 : decode cX7_follow 17 = .ok (.aaload, 1) := by decide +kernel
theorem dX7_follow_18 : decode cX7_follow 18 = .ok (.iload_n 1, 1) := by decide +kernel
theorem dX7_follow_19 : decode cX7_follow 19 = .ok (.invokevirtual 191, 3) := by decide +kernel
theorem dX7_follow_22 : decode cX7_follow 22 = .ok (.iload_n 2, 1) := by decide +kernel
theorem dX7_follow_23 : decode cX7_follow 23 = .ok (.aload_n 0, 1) := by decide +kernel
theorem dX7_follow_24 : decode cX7_follow 24 = .ok (.getfield 34, 3) := by decide +kernel
theorem dX7_follow_27 : decode cX7_follow 27 = .ok (.iload_n 3, 1) := by decide +kernel
theorem dX7_follow_28 : decode cX7_follow 28 = .ok (.aaload, 1) := by decide +kernel
theorem dX7_follow_29 : decode cX7_follow 29 = .ok (.invokevirtual 154, 3) := by decide +kernel
theorem dX7_follow_32 : decode cX7_follow 32 = .ok (.iadd, 1) := by decide +kernel
theorem dX7_follow_33 : decode cX7_follow 33 = .ok (.istore_n 2, 1) := by decide +kernel
theorem dX7_follow_34 : decode cX7_follow 34 = .ok (.iinc 3 1, 3) := by decide +kernel
theorem dX7_follow_37 : decode cX7_follow 37 = .ok (.goto (-33), 3) := by decide +kernel
theorem dX7_follow_40 : decode cX7_follow 40 = .ok (.iload_n 2, 1) := by decide +kernel
theorem dX7_follow_41 : decode cX7_follow 41 = .ok (.ireturn, 1) := by decide +kernel
theorem dX7_tellDifference_0 : decode cX7_tellDifference 0 = .ok (.iload_n 3, 1) := by decide +kernel
theorem dX7_tellDifference_1 : decode cX7_tellDifference 1 = .ok (.tableswitch 59 0 2 #[27, 29, 40], 27) := by decide +kernel
theorem dX7_tellDifference_28 : decode cX7_tellDifference 28 = .ok (.iload_n 1, 1) := by decide +kernel
theorem dX7_tellDifference_29 : decode cX7_tellDifference 29 = .ok (.ireturn, 1) := by decide +kernel
theorem dX7_tellDifference_30 : decode cX7_tellDifference 30 = .ok (.aload_n 0, 1) := by decide +kernel
theorem dX7_tellDifference_31 : decode cX7_tellDifference 31 = .ok (.getfield 34, 3) := by decide +kernel
theorem dX7_tellDifference_34 : decode cX7_tellDifference 34 = .ok (.iload_n 1, 1) := by decide +kernel
theorem dX7_tellDifference_35 : decode cX7_tellDifference 35 = .ok (.aaload, 1) := by decide +kernel
theorem dX7_tellDifference_36 : decode cX7_tellDifference 36 = .ok (.iload_n 2, 1) := by decide +kernel
theorem dX7_tellDifference_37 : decode cX7_tellDifference 37 = .ok (.invokevirtual 194, 3) := by decide +kernel
theorem dX7_tellDifference_40 : decode cX7_tellDifference 40 = .ok (.ireturn, 1) := by decide +kernel
theorem dX7_tellDifference_41 : decode cX7_tellDifference 41 = .ok (.aload_n 0, 1) := by decide +kernel
theorem dX7_tellDifference_42 : decode cX7_tellDifference 42 = .ok (.getfield 34, 3) := by decide +kernel
theorem dX7_tellDifference_45 : decode cX7_tellDifference 45 = .ok (.iload_n 1, 1) := by decide +kernel
theorem dX7_tellDifference_46 : decode cX7_tellDifference 46 = .ok (.aaload, 1) := by decide +kernel
theorem dX7_tellDifference_47 : decode cX7_tellDifference 47 = .ok (.iload_n 2, 1) := by decide +kernel
theorem dX7_tellDifference_48 : decode cX7_tellDifference 48 = .ok (.invokevirtual 197, 3) := by decide +kernel
theorem dX7_tellDifference_51 : decode cX7_tellDifference 51 = .ok (.ifCond .eq 7, 3) := by decide +kernel
theorem dX7_tellDifference_54 : decode cX7_tellDifference 54 = .ok (.iconst 1, 1) := by decide +kernel
theorem dX7_tellDifference_55 : decode cX7_tellDifference 55 = .ok (.goto 4, 3) := by decide +kernel
theorem dX7_tellDifference_58 : decode cX7_tellDifference 58 = .ok (.iconst 0, 1) := by decide +kernel
theorem dX7_tellDifference_59 : decode cX7_tellDifference 59 = .ok (.ireturn, 1) := by decide +kernel
theorem dX7_tellDifference_60 : decode cX7_tellDifference 60 = .ok (.iconst (-1), 1) := by decide +kernel
theorem dX7_tellDifference_61 : decode cX7_tellDifference 61 = .ok (.ireturn, 1) := by decide +kernel
