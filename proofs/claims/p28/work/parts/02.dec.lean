theorem dX0_init_0 : decode cX0_init 0 = .ok (.aload_n 0, 1) := by decide +kernel
theorem dX0_init_1 : decode cX0_init 1 = .ok (.invokespecial 3, 3) := by decide +kernel
theorem dX0_init_4 : decode cX0_init 4 = .ok (.aload_n 0, 1) := by decide +kernel
theorem dX0_init_5 : decode cX0_init 5 = .ok (.bipush 6, 2) := by decide +kernel
theorem dX0_init_7 : decode cX0_init 7 = .ok (.newarray .int, 2) := by decide +kernel
theorem dX0_init_9 : decode cX0_init 9 = .ok (.putfield 9, 3) := by decide +kernel
theorem dX0_init_12 : decode cX0_init 12 = .ok (.aload_n 0, 1) := by decide +kernel
theorem dX0_init_13 : decode cX0_init 13 = .ok (.bipush 6, 2) := by decide +kernel
theorem dX0_init_15 : decode cX0_init 15 = .ok (.newarray .int, 2) := by decide +kernel
theorem dX0_init_17 : decode cX0_init 17 = .ok (.putfield 15, 3) := by decide +kernel
theorem dX0_init_20 : decode cX0_init 20 = .ok (.aload_n 0, 1) := by decide +kernel
theorem dX0_init_21 : decode cX0_init 21 = .ok (.bipush 16, 2) := by decide +kernel
theorem dX0_init_23 : decode cX0_init 23 = .ok (.newarray .int, 2) := by decide +kernel
theorem dX0_init_25 : decode cX0_init 25 = .ok (.putfield 18, 3) := by decide +kernel
theorem dX0_init_28 : decode cX0_init 28 = .ok (.aload_n 0, 1) := by decide +kernel
theorem dX0_init_29 : decode cX0_init 29 = .ok (.iconst 0, 1) := by decide +kernel
theorem dX0_init_30 : decode cX0_init 30 = .ok (.putfield 21, 3) := by decide +kernel
theorem dX0_init_33 : decode cX0_init 33 = .ok (.aload_n 0, 1) := by decide +kernel
theorem dX0_init_34 : decode cX0_init 34 = .ok (.iconst 0, 1) := by decide +kernel
theorem dX0_init_35 : decode cX0_init 35 = .ok (.putfield 25, 3) := by decide +kernel
theorem dX0_init_38 : decode cX0_init 38 = .ok (.aload_n 0, 1) := by decide +kernel
theorem dX0_init_39 : decode cX0_init 39 = .ok (.iconst 0, 1) := by decide +kernel
theorem dX0_init_40 : decode cX0_init 40 = .ok (.putfield 28, 3) := by decide +kernel
theorem dX0_init_43 : decode cX0_init 43 = .ok (.return_, 1) := by decide +kernel
theorem dX0_copyFrom_0 : decode cX0_copyFrom 0 = .ok (.aload_n 1, 1) := by decide +kernel
theorem dX0_copyFrom_1 : decode cX0_copyFrom 1 = .ok (.getfield 9, 3) := by decide +kernel
theorem dX0_copyFrom_4 : decode cX0_copyFrom 4 = .ok (.iconst 0, 1) := by decide +kernel
theorem dX0_copyFrom_5 : decode cX0_copyFrom 5 = .ok (.aload_n 0, 1) := by decide +kernel
theorem dX0_copyFrom_6 : decode cX0_copyFrom 6 = .ok (.getfield 9, 3) := by decide +kernel
theorem dX0_copyFrom_9 : decode cX0_copyFrom 9 = .ok (.iconst 0, 1) := by decide +kernel
theorem dX0_copyFrom_10 : decode cX0_copyFrom 10 = .ok (.bipush 6, 2) := by decide +kernel
theorem dX0_copyFrom_12 : decode cX0_copyFrom 12 = .ok (.invokestatic 31, 3) := by decide +kernel
theorem dX0_copyFrom_15 : decode cX0_copyFrom 15 = .ok (.aload_n 1, 1) := by decide +kernel
theorem dX0_copyFrom_16 : decode cX0_copyFrom 16 = .ok (.getfield 15, 3) := by decide +kernel
theorem dX0_copyFrom_19 : decode cX0_copyFrom 19 = .ok (.iconst 0, 1) := by decide +kernel
theorem dX0_copyFrom_20 : decode cX0_copyFrom 20 = .ok (.aload_n 0, 1) := by decide +kernel
theorem dX0_copyFrom_21 : decode cX0_copyFrom 21 = .ok (.getfield 15, 3) := by decide +kernel
theorem dX0_copyFrom_24 : decode cX0_copyFrom 24 = .ok (.iconst 0, 1) := by decide +kernel
theorem dX0_copyFrom_25 : decode cX0_copyFrom 25 = .ok (.bipush 6, 2) := by decide +kernel
theorem dX0_copyFrom_27 : decode cX0_copyFrom 27 = .ok (.invokestatic 31, 3) := by decide +kernel
theorem dX0_copyFrom_30 : decode cX0_copyFrom 30 = .ok (.aload_n 1, 1) := by decide +kernel
theorem dX0_copyFrom_31 : decode cX0_copyFrom 31 = .ok (.getfield 18, 3) := by decide +kernel
theorem dX0_copyFrom_34 : decode cX0_copyFrom 34 = .ok (.iconst 0, 1) := by decide +kernel
theorem dX0_copyFrom_35 : decode cX0_copyFrom 35 = .ok (.aload_n 0, 1) := by decide +kernel
theorem dX0_copyFrom_36 : decode cX0_copyFrom 36 = .ok (.getfield 18, 3) := by decide +kernel
theorem dX0_copyFrom_39 : decode cX0_copyFrom 39 = .ok (.iconst 0, 1) := by decide +kernel
theorem dX0_copyFrom_40 : decode cX0_copyFrom 40 = .ok (.bipush 16, 2) := by decide +kernel
theorem dX0_copyFrom_42 : decode cX0_copyFrom 42 = .ok (.invokestatic 31, 3) := by decide +kernel
theorem dX0_copyFrom_45 : decode cX0_copyFrom 45 = .ok (.aload_n 0, 1) := by decide +kernel
theorem dX0_copyFrom_46 : decode cX0_copyFrom 46 = .ok (.aload_n 1, 1) := by decide +kernel
theorem dX0_copyFrom_47 : decode cX0_copyFrom 47 = .ok (.getfield 21, 3) := by decide +kernel
theorem dX0_copyFrom_50 : decode cX0_copyFrom 50 = .ok (.putfield 21, 3) := by decide +kernel
theorem dX0_copyFrom_53 : decode cX0_copyFrom 53 = .ok (.aload_n 0, 1) := by decide +kernel
theorem dX0_copyFrom_54 : decode cX0_copyFrom 54 = .ok (.aload_n 1, 1) := by decide +kernel
theorem dX0_copyFrom_55 : decode cX0_copyFrom 55 = .ok (.getfield 25, 3) := by decide +kernel
theorem dX0_copyFrom_58 : decode cX0_copyFrom 58 = .ok (.putfield 25, 3) := by decide +kernel
theorem dX0_copyFrom_61 : decode cX0_copyFrom 61 = .ok (.aload_n 0, 1) := by decide +kernel
theorem dX0_copyFrom_62 : decode cX0_copyFrom 62 = .ok (.aload_n 1, 1) := by decide +kernel
theorem dX0_copyFrom_63 : decode cX0_copyFrom 63 = .ok (.getfield 28, 3) := by decide +kernel
theorem dX0_copyFrom_66 : decode cX0_copyFrom 66 = .ok (.putfield 28, 3) := by decide +kernel
theorem dX0_copyFrom_69 : decode cX0_copyFrom 69 = .ok (.return_, 1) := by decide +kernel
theorem dX0_becomeNew_0 : decode cX0_becomeNew 0 = .ok (.iconst 0, 1) := by decide +kernel
theorem dX0_becomeNew_1 : decode cX0_becomeNew 1 = .ok (.istore_n 1, 1) := by decide +kernel
theorem dX0_becomeNew_2 : decode cX0_becomeNew 2 = .ok (.iload_n 1, 1) := by decide +kernel
theorem dX0_becomeNew_3 : decode cX0_becomeNew 3 = .ok (.bipush 6, 2) := by decide +kernel
theorem dX0_becomeNew_5 : decode cX0_becomeNew 5 = .ok (.if_icmp .ge 23, 3) := by decide +kernel
theorem dX0_becomeNew_8 : decode cX0_becomeNew 8 = .ok (.aload_n 0, 1) := by decide +kernel
theorem dX0_becomeNew_9 : decode cX0_becomeNew 9 = .ok (.getfield 9, 3) := by decide +kernel
theorem dX0_becomeNew_12 : decode cX0_becomeNew 12 = .ok (.iload_n 1, 1) := by decide +kernel
theorem dX0_becomeNew_13 : decode cX0_becomeNew 13 = .ok (.iconst 0, 1) := by decide +kernel
theorem dX0_becomeNew_14 : decode cX0_becomeNew 14 = .ok (.iastore, 1) := by decide +kernel
theorem dX0_becomeNew_15 : decode cX0_becomeNew 15 = .ok (.aload_n 0, 1) := by decide +kernel
theorem dX0_becomeNew_16 : decode cX0_becomeNew 16 = .ok (.getfield 15, 3) := by decide +kernel
theorem dX0_becomeNew_19 : decode cX0_becomeNew 19 = .ok (.iload_n 1, 1) := by decide +kernel
theorem dX0_becomeNew_20 : decode cX0_becomeNew 20 = .ok (.iconst 0, 1) := by decide +kernel
theorem dX0_becomeNew_21 : decode cX0_becomeNew 21 = .ok (.iastore, 1) := by decide +kernel
theorem dX0_becomeNew_22 : decode cX0_becomeNew 22 = .ok (.iinc 1 1, 3) := by decide +kernel
theorem dX0_becomeNew_25 : decode cX0_becomeNew 25 = .ok (.goto (-23), 3) := by decide +kernel
theorem dX0_becomeNew_28 : decode cX0_becomeNew 28 = .ok (.aload_n 0, 1) := by decide +kernel
theorem dX0_becomeNew_29 : decode cX0_becomeNew 29 = .ok (.iconst 0, 1) := by decide +kernel
theorem dX0_becomeNew_30 : decode cX0_becomeNew 30 = .ok (.putfield 21, 3) := by decide +kernel
theorem dX0_becomeNew_33 : decode cX0_becomeNew 33 = .ok (.aload_n 0, 1) := by decide +kernel
theorem dX0_becomeNew_34 : decode cX0_becomeNew 34 = .ok (.iconst 0, 1) := by decide +kernel
theorem dX0_becomeNew_35 : decode cX0_becomeNew 35 = .ok (.putfield 28, 3) := by decide +kernel
theorem dX0_becomeNew_38 : decode cX0_becomeNew 38 = .ok (.return_, 1) := by decide +kernel
theorem dX0_open_0 : decode cX0_open 0 = .ok (.aload_n 0, 1) := by decide +kernel
theorem dX0_open_1 : decode cX0_open 1 = .ok (.getfield 9, 3) := by decide +kernel
theorem dX0_open_4 : decode cX0_open 4 = .ok (.iload_n 1, 1) := by decide +kernel
theorem dX0_open_5 : decode cX0_open 5 = .ok (.iaload, 1) := by decide +kernel
theorem dX0_open_6 : decode cX0_open 6 = .ok (.bipush 10, 2) := by decide +kernel
theorem dX0_open_8 : decode cX0_open 8 = .ok (.aload_n 0, 1) := by decide +kernel
theorem dX0_open_9 : decode cX0_open 9 = .ok (.getfield 15, 3) := by decide +kernel
theorem dX0_open_12 : decode cX0_open 12 = .ok (.iload_n 1, 1) := by decide +kernel
theorem dX0_open_13 : decode cX0_open 13 = .ok (.iaload, 1) := by decide +kernel
theorem dX0_open_14 : decode cX0_open 14 = .ok (.imul, 1) := by decide +kernel
theorem dX0_open_15 : decode cX0_open 15 = .ok (.isub, 1) := by decide +kernel
theorem dX0_open_16 : decode cX0_open 16 = .ok (.ireturn, 1) := by decide +kernel
theorem dX0_tiesAt_0 : decode cX0_tiesAt 0 = .ok (.aload_n 0, 1) := by decide +kernel
theorem dX0_tiesAt_1 : decode cX0_tiesAt 1 = .ok (.getfield 9, 3) := by decide +kernel
theorem dX0_tiesAt_4 : decode cX0_tiesAt 4 = .ok (.iload_n 1, 1) := by decide +kernel
theorem dX0_tiesAt_5 : decode cX0_tiesAt 5 = .ok (.iaload, 1) := by decide +kernel
theorem dX0_tiesAt_6 : decode cX0_tiesAt 6 = .ok (.aload_n 0, 1) := by decide +kernel
theorem dX0_tiesAt_7 : decode cX0_tiesAt 7 = .ok (.getfield 15, 3) := by decide +kernel
theorem dX0_tiesAt_10 : decode cX0_tiesAt 10 = .ok (.iload_n 1, 1) := by decide +kernel
theorem dX0_tiesAt_11 : decode cX0_tiesAt 11 = .ok (.iaload, 1) := by decide +kernel
theorem dX0_tiesAt_12 : decode cX0_tiesAt 12 = .ok (.iadd, 1) := by decide +kernel
theorem dX0_tiesAt_13 : decode cX0_tiesAt 13 = .ok (.ireturn, 1) := by decide +kernel
theorem dX0_told_0 : decode cX0_told 0 = .ok (.iconst 0, 1) := by decide +kernel
theorem dX0_told_1 : decode cX0_told 1 = .ok (.istore_n 1, 1) := by decide +kernel
theorem dX0_told_2 : decode cX0_told 2 = .ok (.iconst 5, 1) := by decide +kernel
theorem dX0_told_3 : decode cX0_told 3 = .ok (.istore_n 2, 1) := by decide +kernel
theorem dX0_told_4 : decode cX0_told 4 = .ok (.iload_n 2, 1) := by decide +kernel
theorem dX0_told_5 : decode cX0_told 5 = .ok (.ifCond .lt 20, 3) := by decide +kernel
theorem dX0_told_8 : decode cX0_told 8 = .ok (.bipush 10, 2) := by decide +kernel
theorem dX0_told_10 : decode cX0_told 10 = .ok (.iload_n 1, 1) := by decide +kernel
theorem dX0_told_11 : decode cX0_told 11 = .ok (.imul, 1) := by decide +kernel
theorem dX0_told_12 : decode cX0_told 12 = .ok (.aload_n 0, 1) := by decide +kernel
theorem dX0_told_13 : decode cX0_told 13 = .ok (.iload_n 2, 1) := by decide +kernel
theorem dX0_told_14 : decode cX0_told 14 = .ok (.invokevirtual 37, 3) := by decide +kernel
theorem dX0_told_17 : decode cX0_told 17 = .ok (.iadd, 1) := by decide +kernel
theorem dX0_told_18 : decode cX0_told 18 = .ok (.istore_n 1, 1) := by decide +kernel
theorem dX0_told_19 : decode cX0_told 19 = .ok (.iinc 2 (-1), 3) := by decide +kernel
theorem dX0_told_22 : decode cX0_told 22 = .ok (.goto (-18), 3) := by decide +kernel
theorem dX0_told_25 : decode cX0_told 25 = .ok (.iload_n 1, 1) := by decide +kernel
theorem dX0_told_26 : decode cX0_told 26 = .ok (.ireturn, 1) := by decide +kernel
theorem dX0_partsTogether_0 : decode cX0_partsTogether 0 = .ok (.aload_n 0, 1) := by decide +kernel
theorem dX0_partsTogether_1 : decode cX0_partsTogether 1 = .ok (.getfield 18, 3) := by decide +kernel
theorem dX0_partsTogether_4 : decode cX0_partsTogether 4 = .ok (.aload_n 0, 1) := by decide +kernel
theorem dX0_partsTogether_5 : decode cX0_partsTogether 5 = .ok (.getfield 21, 3) := by decide +kernel
theorem dX0_partsTogether_8 : decode cX0_partsTogether 8 = .ok (.invokestatic 41, 3) := by decide +kernel
theorem dX0_partsTogether_11 : decode cX0_partsTogether 11 = .ok (.ireturn, 1) := by decide +kernel
theorem dX0_lack_0 : decode cX0_lack 0 = .ok (.aload_n 0, 1) := by decide +kernel
theorem dX0_lack_1 : decode cX0_lack 1 = .ok (.invokevirtual 45, 3) := by decide +kernel
theorem dX0_lack_4 : decode cX0_lack 4 = .ok (.aload_n 0, 1) := by decide +kernel
theorem dX0_lack_5 : decode cX0_lack 5 = .ok (.invokevirtual 49, 3) := by decide +kernel
theorem dX0_lack_8 : decode cX0_lack 8 = .ok (.isub, 1) := by decide +kernel
theorem dX0_lack_9 : decode cX0_lack 9 = .ok (.ireturn, 1) := by decide +kernel
theorem dX0_allKnots_0 : decode cX0_allKnots 0 = .ok (.aload_n 0, 1) := by decide +kernel
theorem dX0_allKnots_1 : decode cX0_allKnots 1 = .ok (.getfield 9, 3) := by decide +kernel
theorem dX0_allKnots_4 : decode cX0_allKnots 4 = .ok (.bipush 6, 2) := by decide +kernel
theorem dX0_allKnots_6 : decode cX0_allKnots 6 = .ok (.invokestatic 41, 3) := by decide +kernel
theorem dX0_allKnots_9 : decode cX0_allKnots 9 = .ok (.ireturn, 1) := by decide +kernel
theorem dX0_allLoops_0 : decode cX0_allLoops 0 = .ok (.aload_n 0, 1) := by decide +kernel
theorem dX0_allLoops_1 : decode cX0_allLoops 1 = .ok (.getfield 15, 3) := by decide +kernel
theorem dX0_allLoops_4 : decode cX0_allLoops 4 = .ok (.bipush 6, 2) := by decide +kernel
theorem dX0_allLoops_6 : decode cX0_allLoops 6 = .ok (.invokestatic 41, 3) := by decide +kernel
theorem dX0_allLoops_9 : decode cX0_allLoops 9 = .ok (.ireturn, 1) := by decide +kernel
theorem dX0_ties_0 : decode cX0_ties 0 = .ok (.aload_n 0, 1) := by decide +kernel
theorem dX0_ties_1 : decode cX0_ties 1 = .ok (.invokevirtual 52, 3) := by decide +kernel
theorem dX0_ties_4 : decode cX0_ties 4 = .ok (.aload_n 0, 1) := by decide +kernel
theorem dX0_ties_5 : decode cX0_ties 5 = .ok (.invokevirtual 55, 3) := by decide +kernel
theorem dX0_ties_8 : decode cX0_ties 8 = .ok (.iadd, 1) := by decide +kernel
theorem dX0_ties_9 : decode cX0_ties 9 = .ok (.ireturn, 1) := by decide +kernel
theorem dX0_refusal_0 : decode cX0_refusal 0 = .ok (.aload_n 0, 1) := by decide +kernel
theorem dX0_refusal_1 : decode cX0_refusal 1 = .ok (.invokevirtual 49, 3) := by decide +kernel
theorem dX0_refusal_4 : decode cX0_refusal 4 = .ok (.iload_n 1, 1) := by decide +kernel
theorem dX0_refusal_5 : decode cX0_refusal 5 = .ok (.iadd, 1) := by decide +kernel
theorem dX0_refusal_6 : decode cX0_refusal 6 = .ok (.ldc 58, 2) := by decide +kernel
theorem dX0_refusal_8 : decode cX0_refusal 8 = .ok (.if_icmp .le 5, 3) := by decide +kernel
theorem dX0_refusal_11 : decode cX0_refusal 11 = .ok (.iconst 1, 1) := by decide +kernel
theorem dX0_refusal_12 : decode cX0_refusal 12 = .ok (.ireturn, 1) := by decide +kernel
theorem dX0_refusal_13 : decode cX0_refusal 13 = .ok (.iload_n 1, 1) := by decide +kernel
theorem dX0_refusal_14 : decode cX0_refusal 14 = .ok (.istore_n 3, 1) := by decide +kernel
theorem dX0_refusal_15 : decode cX0_refusal 15 = .ok (.iconst 0, 1) := by decide +kernel
theorem dX0_refusal_16 : decode cX0_refusal 16 = .ok (.istore 4, 2) := by decide +kernel
theorem dX0_refusal_18 : decode cX0_refusal 18 = .ok (.iconst 0, 1) := by decide +kernel
theorem dX0_refusal_19 : decode cX0_refusal 19 = .ok (.istore 5, 2) := by decide +kernel
theorem dX0_refusal_21 : decode cX0_refusal 21 = .ok (.iload 5, 2) := by decide +kernel
theorem dX0_refusal_23 : decode cX0_refusal 23 = .ok (.bipush 6, 2) := by decide +kernel
theorem dX0_refusal_25 : decode cX0_refusal 25 = .ok (.if_icmp .ge 64, 3) := by decide +kernel
theorem dX0_refusal_28 : decode cX0_refusal 28 = .ok (.iload_n 3, 1) := by decide +kernel
theorem dX0_refusal_29 : decode cX0_refusal 29 = .ok (.bipush 10, 2) := by decide +kernel
theorem dX0_refusal_31 : decode cX0_refusal 31 = .ok (.irem, 1) := by decide +kernel
theorem dX0_refusal_32 : decode cX0_refusal 32 = .ok (.iload 4, 2) := by decide +kernel
theorem dX0_refusal_34 : decode cX0_refusal 34 = .ok (.iadd, 1) := by decide +kernel
theorem dX0_refusal_35 : decode cX0_refusal 35 = .ok (.istore 6, 2) := by decide +kernel
theorem dX0_refusal_37 : decode cX0_refusal 37 = .ok (.aload_n 0, 1) := by decide +kernel
theorem dX0_refusal_38 : decode cX0_refusal 38 = .ok (.iload 5, 2) := by decide +kernel
theorem dX0_refusal_40 : decode cX0_refusal 40 = .ok (.iload 6, 2) := by decide +kernel
theorem dX0_refusal_42 : decode cX0_refusal 42 = .ok (.invokevirtual 59, 3) := by decide +kernel
theorem dX0_refusal_45 : decode cX0_refusal 45 = .ok (.istore 7, 2) := by decide +kernel
theorem dX0_refusal_47 : decode cX0_refusal 47 = .ok (.iload 6, 2) := by decide +kernel
theorem dX0_refusal_49 : decode cX0_refusal 49 = .ok (.iload 7, 2) := by decide +kernel
theorem dX0_refusal_51 : decode cX0_refusal 51 = .ok (.iadd, 1) := by decide +kernel
theorem dX0_refusal_52 : decode cX0_refusal 52 = .ok (.istore 8, 2) := by decide +kernel
theorem dX0_refusal_54 : decode cX0_refusal 54 = .ok (.iload 8, 2) := by decide +kernel
theorem dX0_refusal_56 : decode cX0_refusal 56 = .ok (.ifCond .le 18, 3) := by decide +kernel
theorem dX0_refusal_59 : decode cX0_refusal 59 = .ok (.aload_n 0, 1) := by decide +kernel
theorem dX0_refusal_60 : decode cX0_refusal 60 = .ok (.iload 5, 2) := by decide +kernel
theorem dX0_refusal_62 : decode cX0_refusal 62 = .ok (.invokevirtual 63, 3) := by decide +kernel
theorem dX0_refusal_65 : decode cX0_refusal 65 = .ok (.iload 8, 2) := by decide +kernel
theorem dX0_refusal_67 : decode cX0_refusal 67 = .ok (.iadd, 1) := by decide +kernel
theorem dX0_refusal_68 : decode cX0_refusal 68 = .ok (.iload_n 2, 1) := by decide +kernel
theorem dX0_refusal_69 : decode cX0_refusal 69 = .ok (.if_icmp .le 5, 3) := by decide +kernel
theorem dX0_refusal_72 : decode cX0_refusal 72 = .ok (.iconst 2, 1) := by decide +kernel
theorem dX0_refusal_73 : decode cX0_refusal 73 = .ok (.ireturn, 1) := by decide +kernel
theorem dX0_refusal_74 : decode cX0_refusal 74 = .ok (.iload_n 3, 1) := by decide +kernel
theorem dX0_refusal_75 : decode cX0_refusal 75 = .ok (.bipush 10, 2) := by decide +kernel
theorem dX0_refusal_77 : decode cX0_refusal 77 = .ok (.idiv, 1) := by decide +kernel
theorem dX0_refusal_78 : decode cX0_refusal 78 = .ok (.istore_n 3, 1) := by decide +kernel
theorem dX0_refusal_79 : decode cX0_refusal 79 = .ok (.iload 7, 2) := by decide +kernel
theorem dX0_refusal_81 : decode cX0_refusal 81 = .ok (.istore 4, 2) := by decide +kernel
theorem dX0_refusal_83 : decode cX0_refusal 83 = .ok (.iinc 5 1, 3) := by decide +kernel
theorem dX0_refusal_86 : decode cX0_refusal 86 = .ok (.goto (-65), 3) := by decide +kernel
theorem dX0_refusal_89 : decode cX0_refusal 89 = .ok (.iconst 0, 1) := by decide +kernel
theorem dX0_refusal_90 : decode cX0_refusal 90 = .ok (.ireturn, 1) := by decide +kernel
theorem dX0_refusalOfPart_0 : decode cX0_refusalOfPart 0 = .ok (.aload_n 0, 1) := by decide +kernel
theorem dX0_refusalOfPart_1 : decode cX0_refusalOfPart 1 = .ok (.getfield 21, 3) := by decide +kernel
theorem dX0_refusalOfPart_4 : decode cX0_refusalOfPart 4 = .ok (.bipush 16, 2) := by decide +kernel
theorem dX0_refusalOfPart_6 : decode cX0_refusalOfPart 6 = .ok (.if_icmp .lt 7, 3) := by decide +kernel
theorem dX0_refusalOfPart_9 : decode cX0_refusalOfPart 9 = .ok (.iconst 3, 1) := by decide +kernel
theorem dX0_refusalOfPart_10 : decode cX0_refusalOfPart 10 = .ok (.goto 9, 3) := by decide +kernel
theorem dX0_refusalOfPart_13 : decode cX0_refusalOfPart 13 = .ok (.aload_n 0, 1) := by decide +kernel
theorem dX0_refusalOfPart_14 : decode cX0_refusalOfPart 14 = .ok (.iload_n 1, 1) := by decide +kernel
theorem dX0_refusalOfPart_15 : decode cX0_refusalOfPart 15 = .ok (.iload_n 2, 1) := by decide +kernel
theorem dX0_refusalOfPart_16 : decode cX0_refusalOfPart 16 = .ok (.invokevirtual 66, 3) := by decide +kernel
theorem dX0_refusalOfPart_19 : decode cX0_refusalOfPart 19 = .ok (.ireturn, 1) := by decide +kernel
theorem dX0_tieKnots_0 : decode cX0_tieKnots 0 = .ok (.iload_n 1, 1) := by decide +kernel
theorem dX0_tieKnots_1 : decode cX0_tieKnots 1 = .ok (.istore_n 2, 1) := by decide +kernel
theorem dX0_tieKnots_2 : decode cX0_tieKnots 2 = .ok (.iconst 0, 1) := by decide +kernel
theorem dX0_tieKnots_3 : decode cX0_tieKnots 3 = .ok (.istore_n 3, 1) := by decide +kernel
theorem dX0_tieKnots_4 : decode cX0_tieKnots 4 = .ok (.iconst 0, 1) := by decide +kernel
theorem dX0_tieKnots_5 : decode cX0_tieKnots 5 = .ok (.istore 4, 2) := by decide +kernel
theorem dX0_tieKnots_7 : decode cX0_tieKnots 7 = .ok (.iload 4, 2) := by decide +kernel
theorem dX0_tieKnots_9 : decode cX0_tieKnots 9 = .ok (.bipush 6, 2) := by decide +kernel
theorem dX0_tieKnots_11 : decode cX0_tieKnots 11 = .ok (.if_icmp .ge 59, 3) := by decide +kernel
theorem dX0_tieKnots_14 : decode cX0_tieKnots 14 = .ok (.iload_n 2, 1) := by decide +kernel
theorem dX0_tieKnots_15 : decode cX0_tieKnots 15 = .ok (.bipush 10, 2) := by decide +kernel
theorem dX0_tieKnots_17 : decode cX0_tieKnots 17 = .ok (.irem, 1) := by decide +kernel
theorem dX0_tieKnots_18 : decode cX0_tieKnots 18 = .ok (.iload_n 3, 1) := by decide +kernel
theorem dX0_tieKnots_19 : decode cX0_tieKnots 19 = .ok (.iadd, 1) := by decide +kernel
theorem dX0_tieKnots_20 : decode cX0_tieKnots 20 = .ok (.istore 5, 2) := by decide +kernel
theorem dX0_tieKnots_22 : decode cX0_tieKnots 22 = .ok (.aload_n 0, 1) := by decide +kernel
theorem dX0_tieKnots_23 : decode cX0_tieKnots 23 = .ok (.iload 4, 2) := by decide +kernel
theorem dX0_tieKnots_25 : decode cX0_tieKnots 25 = .ok (.iload 5, 2) := by decide +kernel
theorem dX0_tieKnots_27 : decode cX0_tieKnots 27 = .ok (.invokevirtual 59, 3) := by decide +kernel
theorem dX0_tieKnots_30 : decode cX0_tieKnots 30 = .ok (.istore 6, 2) := by decide +kernel
theorem dX0_tieKnots_32 : decode cX0_tieKnots 32 = .ok (.aload_n 0, 1) := by decide +kernel
theorem dX0_tieKnots_33 : decode cX0_tieKnots 33 = .ok (.getfield 9, 3) := by decide +kernel
theorem dX0_tieKnots_36 : decode cX0_tieKnots 36 = .ok (.iload 4, 2) := by decide +kernel
theorem dX0_tieKnots_38 : decode cX0_tieKnots 38 = .ok (.dup2, 1) := by decide +kernel
theorem dX0_tieKnots_39 : decode cX0_tieKnots 39 = .ok (.iaload, 1) := by decide +kernel
theorem dX0_tieKnots_40 : decode cX0_tieKnots 40 = .ok (.iload 5, 2) := by decide +kernel
theorem dX0_tieKnots_42 : decode cX0_tieKnots 42 = .ok (.iadd, 1) := by decide +kernel
theorem dX0_tieKnots_43 : decode cX0_tieKnots 43 = .ok (.iastore, 1) := by decide +kernel
theorem dX0_tieKnots_44 : decode cX0_tieKnots 44 = .ok (.aload_n 0, 1) := by decide +kernel
theorem dX0_tieKnots_45 : decode cX0_tieKnots 45 = .ok (.getfield 15, 3) := by decide +kernel
theorem dX0_tieKnots_48 : decode cX0_tieKnots 48 = .ok (.iload 4, 2) := by decide +kernel
theorem dX0_tieKnots_50 : decode cX0_tieKnots 50 = .ok (.dup2, 1) := by decide +kernel
theorem dX0_tieKnots_51 : decode cX0_tieKnots 51 = .ok (.iaload, 1) := by decide +kernel
theorem dX0_tieKnots_52 : decode cX0_tieKnots 52 = .ok (.iload 6, 2) := by decide +kernel
theorem dX0_tieKnots_54 : decode cX0_tieKnots 54 = .ok (.iadd, 1) := by decide +kernel
theorem dX0_tieKnots_55 : decode cX0_tieKnots 55 = .ok (.iastore, 1) := by decide +kernel
theorem dX0_tieKnots_56 : decode cX0_tieKnots 56 = .ok (.iload_n 2, 1) := by decide +kernel
theorem dX0_tieKnots_57 : decode cX0_tieKnots 57 = .ok (.bipush 10, 2) := by decide +kernel
theorem dX0_tieKnots_59 : decode cX0_tieKnots 59 = .ok (.idiv, 1) := by decide +kernel
theorem dX0_tieKnots_60 : decode cX0_tieKnots 60 = .ok (.istore_n 2, 1) := by decide +kernel
theorem dX0_tieKnots_61 : decode cX0_tieKnots 61 = .ok (.iload 6, 2) := by decide +kernel
theorem dX0_tieKnots_63 : decode cX0_tieKnots 63 = .ok (.istore_n 3, 1) := by decide +kernel
theorem dX0_tieKnots_64 : decode cX0_tieKnots 64 = .ok (.iinc 4 1, 3) := by decide +kernel
theorem dX0_tieKnots_67 : decode cX0_tieKnots 67 = .ok (.goto (-60), 3) := by decide +kernel
theorem dX0_tieKnots_70 : decode cX0_tieKnots 70 = .ok (.return_, 1) := by decide +kernel
theorem dX0_tieAsPart_0 : decode cX0_tieAsPart 0 = .ok (.aload_n 0, 1) := by decide +kernel
theorem dX0_tieAsPart_1 : decode cX0_tieAsPart 1 = .ok (.getfield 21, 3) := by decide +kernel
theorem dX0_tieAsPart_4 : decode cX0_tieAsPart 4 = .ok (.bipush 16, 2) := by decide +kernel
theorem dX0_tieAsPart_6 : decode cX0_tieAsPart 6 = .ok (.if_icmp .ge 28, 3) := by decide +kernel
theorem dX0_tieAsPart_9 : decode cX0_tieAsPart 9 = .ok (.aload_n 0, 1) := by decide +kernel
theorem dX0_tieAsPart_10 : decode cX0_tieAsPart 10 = .ok (.getfield 18, 3) := by decide +kernel
theorem dX0_tieAsPart_13 : decode cX0_tieAsPart 13 = .ok (.aload_n 0, 1) := by decide +kernel
theorem dX0_tieAsPart_14 : decode cX0_tieAsPart 14 = .ok (.getfield 21, 3) := by decide +kernel
theorem dX0_tieAsPart_17 : decode cX0_tieAsPart 17 = .ok (.iload_n 1, 1) := by decide +kernel
theorem dX0_tieAsPart_18 : decode cX0_tieAsPart 18 = .ok (.iastore, 1) := by decide +kernel
theorem dX0_tieAsPart_19 : decode cX0_tieAsPart 19 = .ok (.aload_n 0, 1) := by decide +kernel
theorem dX0_tieAsPart_20 : decode cX0_tieAsPart 20 = .ok (.dup, 1) := by decide +kernel
theorem dX0_tieAsPart_21 : decode cX0_tieAsPart 21 = .ok (.getfield 21, 3) := by decide +kernel
theorem dX0_tieAsPart_24 : decode cX0_tieAsPart 24 = .ok (.iconst 1, 1) := by decide +kernel
theorem dX0_tieAsPart_25 : decode cX0_tieAsPart 25 = .ok (.iadd, 1) := by decide +kernel
theorem dX0_tieAsPart_26 : decode cX0_tieAsPart 26 = .ok (.putfield 21, 3) := by decide +kernel
theorem dX0_tieAsPart_29 : decode cX0_tieAsPart 29 = .ok (.aload_n 0, 1) := by decide +kernel
theorem dX0_tieAsPart_30 : decode cX0_tieAsPart 30 = .ok (.iload_n 1, 1) := by decide +kernel
theorem dX0_tieAsPart_31 : decode cX0_tieAsPart 31 = .ok (.invokevirtual 69, 3) := by decide +kernel
theorem dX0_tieAsPart_34 : decode cX0_tieAsPart 34 = .ok (.return_, 1) := by decide +kernel
theorem dX0_loopsFor_0 : decode cX0_loopsFor 0 = .ok (.aload_n 0, 1) := by decide +kernel
theorem dX0_loopsFor_1 : decode cX0_loopsFor 1 = .ok (.iload_n 1, 1) := by decide +kernel
theorem dX0_loopsFor_2 : decode cX0_loopsFor 2 = .ok (.invokevirtual 37, 3) := by decide +kernel
theorem dX0_loopsFor_5 : decode cX0_loopsFor 5 = .ok (.iload_n 2, 1) := by decide +kernel
theorem dX0_loopsFor_6 : decode cX0_loopsFor 6 = .ok (.iadd, 1) := by decide +kernel
theorem dX0_loopsFor_7 : decode cX0_loopsFor 7 = .ok (.bipush 10, 2) := by decide +kernel
theorem dX0_loopsFor_9 : decode cX0_loopsFor 9 = .ok (.idiv, 1) := by decide +kernel
theorem dX0_loopsFor_10 : decode cX0_loopsFor 10 = .ok (.ireturn, 1) := by decide +kernel
theorem dX0_sumOf_0 : decode cX0_sumOf 0 = .ok (.iconst 0, 1) := by decide +kernel
theorem dX0_sumOf_1 : decode cX0_sumOf 1 = .ok (.istore_n 2, 1) := by decide +kernel
theorem dX0_sumOf_2 : decode cX0_sumOf 2 = .ok (.iconst 0, 1) := by decide +kernel
theorem dX0_sumOf_3 : decode cX0_sumOf 3 = .ok (.istore_n 3, 1) := by decide +kernel
theorem dX0_sumOf_4 : decode cX0_sumOf 4 = .ok (.iload_n 3, 1) := by decide +kernel
theorem dX0_sumOf_5 : decode cX0_sumOf 5 = .ok (.iload_n 1, 1) := by decide +kernel
theorem dX0_sumOf_6 : decode cX0_sumOf 6 = .ok (.if_icmp .ge 21, 3) := by decide +kernel
theorem dX0_sumOf_9 : decode cX0_sumOf 9 = .ok (.iload_n 3, 1) := by decide +kernel
theorem dX0_sumOf_10 : decode cX0_sumOf 10 = .ok (.aload_n 0, 1) := by decide +kernel
theorem dX0_sumOf_11 : decode cX0_sumOf 11 = .ok (.arraylength, 1) := by decide +kernel
theorem dX0_sumOf_12 : decode cX0_sumOf 12 = .ok (.if_icmp .ge 15, 3) := by decide +kernel
theorem dX0_sumOf_15 : decode cX0_sumOf 15 = .ok (.iload_n 2, 1) := by decide +kernel
theorem dX0_sumOf_16 : decode cX0_sumOf 16 = .ok (.aload_n 0, 1) := by decide +kernel
theorem dX0_sumOf_17 : decode cX0_sumOf 17 = .ok (.iload_n 3, 1) := by decide +kernel
theorem dX0_sumOf_18 : decode cX0_sumOf 18 = .ok (.iaload, 1) := by decide +kernel
theorem dX0_sumOf_19 : decode cX0_sumOf 19 = .ok (.iadd, 1) := by decide +kernel
theorem dX0_sumOf_20 : decode cX0_sumOf 20 = .ok (.istore_n 2, 1) := by decide +kernel
theorem dX0_sumOf_21 : decode cX0_sumOf 21 = .ok (.iinc 3 1, 3) := by decide +kernel
theorem dX0_sumOf_24 : decode cX0_sumOf 24 = .ok (.goto (-20), 3) := by decide +kernel
theorem dX0_sumOf_27 : decode cX0_sumOf 27 = .ok (.iload_n 2, 1) := by decide +kernel
theorem dX0_sumOf_28 : decode cX0_sumOf 28 = .ok (.ireturn, 1) := by decide +kernel
theorem dX1_init_0 : decode cX1_init 0 = .ok (.aload_n 0, 1) := by decide +kernel
theorem dX1_init_1 : decode cX1_init 1 = .ok (.invokespecial 3, 3) := by decide +kernel
theorem dX1_init_4 : decode cX1_init 4 = .ok (.aload_n 0, 1) := by decide +kernel
theorem dX1_init_5 : decode cX1_init 5 = .ok (.bipush 7, 2) := by decide +kernel
theorem dX1_init_7 : decode cX1_init 7 = .ok (.anewarray 9, 3) := by decide +kernel
theorem dX1_init_10 : decode cX1_init 10 = .ok (.putfield 11, 3) := by decide +kernel
theorem dX1_init_13 : decode cX1_init 13 = .ok (.aload_n 0, 1) := by decide +kernel
theorem dX1_init_14 : decode cX1_init 14 = .ok (.bipush 40, 2) := by decide +kernel
theorem dX1_init_16 : decode cX1_init 16 = .ok (.putfield 17, 3) := by decide +kernel
theorem dX1_init_19 : decode cX1_init 19 = .ok (.aload_n 0, 1) := by decide +kernel
theorem dX1_init_20 : decode cX1_init 20 = .ok (.iconst 0, 1) := by decide +kernel
theorem dX1_init_21 : decode cX1_init 21 = .ok (.putfield 21, 3) := by decide +kernel
theorem dX1_init_24 : decode cX1_init 24 = .ok (.aload_n 0, 1) := by decide +kernel
theorem dX1_init_25 : decode cX1_init 25 = .ok (.iconst 0, 1) := by decide +kernel
theorem dX1_init_26 : decode cX1_init 26 = .ok (.putfield 24, 3) := by decide +kernel
theorem dX1_init_29 : decode cX1_init 29 = .ok (.aload_n 0, 1) := by decide +kernel
theorem dX1_init_30 : decode cX1_init 30 = .ok (.iconst 0, 1) := by decide +kernel
theorem dX1_init_31 : decode cX1_init 31 = .ok (.putfield 27, 3) := by decide +kernel
theorem dX1_init_34 : decode cX1_init 34 = .ok (.aload_n 0, 1) := by decide +kernel
theorem dX1_init_35 : decode cX1_init 35 = .ok (.iconst 0, 1) := by decide +kernel
theorem dX1_init_36 : decode cX1_init 36 = .ok (.putfield 30, 3) := by decide +kernel
theorem dX1_init_39 : decode cX1_init 39 = .ok (.aload_n 0, 1) := by decide +kernel
theorem dX1_init_40 : decode cX1_init 40 = .ok (.iconst 0, 1) := by decide +kernel
theorem dX1_init_41 : decode cX1_init 41 = .ok (.putfield 33, 3) := by decide +kernel
theorem dX1_init_44 : decode cX1_init 44 = .ok (.iconst 0, 1) := by decide +kernel
theorem dX1_init_45 : decode cX1_init 45 = .ok (.istore_n 1, 1) := by decide +kernel
theorem dX1_init_46 : decode cX1_init 46 = .ok (.iload_n 1, 1) := by decide +kernel
theorem dX1_init_47 : decode cX1_init 47 = .ok (.bipush 7, 2) := by decide +kernel
theorem dX1_init_49 : decode cX1_init 49 = .ok (.if_icmp .ge 22, 3) := by decide +kernel
theorem dX1_init_52 : decode cX1_init 52 = .ok (.aload_n 0, 1) := by decide +kernel
theorem dX1_init_53 : decode cX1_init 53 = .ok (.getfield 11, 3) := by decide +kernel
theorem dX1_init_56 : decode cX1_init 56 = .ok (.iload_n 1, 1) := by decide +kernel
theorem dX1_init_57 : decode cX1_init 57 = .ok (.new 9, 3) := by decide +kernel
theorem dX1_init_60 : decode cX1_init 60 = .ok (.dup, 1) := by decide +kernel
theorem dX1_init_61 : decode cX1_init 61 = .ok (.invokespecial 36, 3) := by decide +kernel
theorem dX1_init_64 : decode cX1_init 64 = .ok (.aastore, 1) := by decide +kernel
theorem dX1_init_65 : decode cX1_init 65 = .ok (.iinc 1 1, 3) := by decide +kernel
theorem dX1_init_68 : decode cX1_init 68 = .ok (.goto (-22), 3) := by decide +kernel
theorem dX1_init_71 : decode cX1_init 71 = .ok (.return_, 1) := by decide +kernel
theorem dX1_copyFrom_0 : decode cX1_copyFrom 0 = .ok (.iconst 0, 1) := by decide +kernel
theorem dX1_copyFrom_1 : decode cX1_copyFrom 1 = .ok (.istore_n 2, 1) := by decide +kernel
theorem dX1_copyFrom_2 : decode cX1_copyFrom 2 = .ok (.iload_n 2, 1) := by decide +kernel
theorem dX1_copyFrom_3 : decode cX1_copyFrom 3 = .ok (.bipush 7, 2) := by decide +kernel
theorem dX1_copyFrom_5 : decode cX1_copyFrom 5 = .ok (.if_icmp .ge 24, 3) := by decide +kernel
theorem dX1_copyFrom_8 : decode cX1_copyFrom 8 = .ok (.aload_n 0, 1) := by decide +kernel
theorem dX1_copyFrom_9 : decode cX1_copyFrom 9 = .ok (.getfield 11, 3) := by decide +kernel
theorem dX1_copyFrom_12 : decode cX1_copyFrom 12 = .ok (.iload_n 2, 1) := by decide +kernel
theorem dX1_copyFrom_13 : decode cX1_copyFrom 13 = .ok (.aaload, 1) := by decide +kernel
theorem dX1_copyFrom_14 : decode cX1_copyFrom 14 = .ok (.aload_n 1, 1) := by decide +kernel
theorem dX1_copyFrom_15 : decode cX1_copyFrom 15 = .ok (.getfield 11, 3) := by decide +kernel
theorem dX1_copyFrom_18 : decode cX1_copyFrom 18 = .ok (.iload_n 2, 1) := by decide +kernel
theorem dX1_copyFrom_19 : decode cX1_copyFrom 19 = .ok (.aaload, 1) := by decide +kernel
theorem dX1_copyFrom_20 : decode cX1_copyFrom 20 = .ok (.invokevirtual 37, 3) := by decide +kernel
theorem dX1_copyFrom_23 : decode cX1_copyFrom 23 = .ok (.iinc 2 1, 3) := by decide +kernel
theorem dX1_copyFrom_26 : decode cX1_copyFrom 26 = .ok (.goto (-24), 3) := by decide +kernel
theorem dX1_copyFrom_29 : decode cX1_copyFrom 29 = .ok (.aload_n 0, 1) := by decide +kernel
theorem dX1_copyFrom_30 : decode cX1_copyFrom 30 = .ok (.aload_n 1, 1) := by decide +kernel
theorem dX1_copyFrom_31 : decode cX1_copyFrom 31 = .ok (.getfield 17, 3) := by decide +kernel
theorem dX1_copyFrom_34 : decode cX1_copyFrom 34 = .ok (.putfield 17, 3) := by decide +kernel
theorem dX1_copyFrom_37 : decode cX1_copyFrom 37 = .ok (.aload_n 0, 1) := by decide +kernel
theorem dX1_copyFrom_38 : decode cX1_copyFrom 38 = .ok (.aload_n 1, 1) := by decide +kernel
theorem dX1_copyFrom_39 : decode cX1_copyFrom 39 = .ok (.getfield 21, 3) := by decide +kernel
theorem dX1_copyFrom_42 : decode cX1_copyFrom 42 = .ok (.putfield 21, 3) := by decide +kernel
theorem dX1_copyFrom_45 : decode cX1_copyFrom 45 = .ok (.aload_n 0, 1) := by decide +kernel
theorem dX1_copyFrom_46 : decode cX1_copyFrom 46 = .ok (.aload_n 1, 1) := by decide +kernel
theorem dX1_copyFrom_47 : decode cX1_copyFrom 47 = .ok (.getfield 24, 3) := by decide +kernel
theorem dX1_copyFrom_50 : decode cX1_copyFrom 50 = .ok (.putfield 24, 3) := by decide +kernel
theorem dX1_copyFrom_53 : decode cX1_copyFrom 53 = .ok (.aload_n 0, 1) := by decide +kernel
theorem dX1_copyFrom_54 : decode cX1_copyFrom 54 = .ok (.aload_n 1, 1) := by decide +kernel
theorem dX1_copyFrom_55 : decode cX1_copyFrom 55 = .ok (.getfield 27, 3) := by decide +kernel
theorem dX1_copyFrom_58 : decode cX1_copyFrom 58 = .ok (.putfield 27, 3) := by decide +kernel
theorem dX1_copyFrom_61 : decode cX1_copyFrom 61 = .ok (.aload_n 0, 1) := by decide +kernel
theorem dX1_copyFrom_62 : decode cX1_copyFrom 62 = .ok (.aload_n 1, 1) := by decide +kernel
theorem dX1_copyFrom_63 : decode cX1_copyFrom 63 = .ok (.getfield 30, 3) := by decide +kernel
theorem dX1_copyFrom_66 : decode cX1_copyFrom 66 = .ok (.putfield 30, 3) := by decide +kernel
theorem dX1_copyFrom_69 : decode cX1_copyFrom 69 = .ok (.aload_n 0, 1) := by decide +kernel
theorem dX1_copyFrom_70 : decode cX1_copyFrom 70 = .ok (.aload_n 1, 1) := by decide +kernel
theorem dX1_copyFrom_71 : decode cX1_copyFrom 71 = .ok (.getfield 33, 3) := by decide +kernel
theorem dX1_copyFrom_74 : decode cX1_copyFrom 74 = .ok (.putfield 33, 3) := by decide +kernel
theorem dX1_copyFrom_77 : decode cX1_copyFrom 77 = .ok (.return_, 1) := by decide +kernel
theorem dX1_tiePart_0 : decode cX1_tiePart 0 = .ok (.aload_n 1, 1) := by decide +kernel
theorem dX1_tiePart_1 : decode cX1_tiePart 1 = .ok (.iload_n 2, 1) := by decide +kernel
theorem dX1_tiePart_2 : decode cX1_tiePart 2 = .ok (.aload_n 0, 1) := by decide +kernel
theorem dX1_tiePart_3 : decode cX1_tiePart 3 = .ok (.getfield 17, 3) := by decide +kernel
theorem dX1_tiePart_6 : decode cX1_tiePart 6 = .ok (.invokevirtual 41, 3) := by decide +kernel
theorem dX1_tiePart_9 : decode cX1_tiePart 9 = .ok (.istore_n 3, 1) := by decide +kernel
theorem dX1_tiePart_10 : decode cX1_tiePart 10 = .ok (.iload_n 3, 1) := by decide +kernel
theorem dX1_tiePart_11 : decode cX1_tiePart 11 = .ok (.ifCond .eq 15, 3) := by decide +kernel
theorem dX1_tiePart_14 : decode cX1_tiePart 14 = .ok (.aload_n 0, 1) := by decide +kernel
theorem dX1_tiePart_15 : decode cX1_tiePart 15 = .ok (.dup, 1) := by decide +kernel
theorem dX1_tiePart_16 : decode cX1_tiePart 16 = .ok (.getfield 33, 3) := by decide +kernel
theorem dX1_tiePart_19 : decode cX1_tiePart 19 = .ok (.iconst 1, 1) := by decide +kernel
theorem dX1_tiePart_20 : decode cX1_tiePart 20 = .ok (.iadd, 1) := by decide +kernel
theorem dX1_tiePart_21 : decode cX1_tiePart 21 = .ok (.putfield 33, 3) := by decide +kernel
theorem dX1_tiePart_24 : decode cX1_tiePart 24 = .ok (.iload_n 3, 1) := by decide +kernel
theorem dX1_tiePart_25 : decode cX1_tiePart 25 = .ok (.ireturn, 1) := by decide +kernel
theorem dX1_tiePart_26 : decode cX1_tiePart 26 = .ok (.aload_n 1, 1) := by decide +kernel
theorem dX1_tiePart_27 : decode cX1_tiePart 27 = .ok (.invokevirtual 45, 3) := by decide +kernel
theorem dX1_tiePart_30 : decode cX1_tiePart 30 = .ok (.istore 4, 2) := by decide +kernel
theorem dX1_tiePart_32 : decode cX1_tiePart 32 = .ok (.aload_n 1, 1) := by decide +kernel
theorem dX1_tiePart_33 : decode cX1_tiePart 33 = .ok (.invokevirtual 49, 3) := by decide +kernel
theorem dX1_tiePart_36 : decode cX1_tiePart 36 = .ok (.istore 5, 2) := by decide +kernel
theorem dX1_tiePart_38 : decode cX1_tiePart 38 = .ok (.aload_n 1, 1) := by decide +kernel
theorem dX1_tiePart_39 : decode cX1_tiePart 39 = .ok (.iload_n 2, 1) := by decide +kernel
theorem dX1_tiePart_40 : decode cX1_tiePart 40 = .ok (.invokevirtual 52, 3) := by decide +kernel
theorem dX1_tiePart_43 : decode cX1_tiePart 43 = .ok (.bipush 10, 2) := by decide +kernel
theorem dX1_tiePart_45 : decode cX1_tiePart 45 = .ok (.aload_n 0, 1) := by decide +kernel
theorem dX1_tiePart_46 : decode cX1_tiePart 46 = .ok (.aload_n 1, 1) := by decide +kernel
theorem dX1_tiePart_47 : decode cX1_tiePart 47 = .ok (.iload 4, 2) := by decide +kernel
theorem dX1_tiePart_49 : decode cX1_tiePart 49 = .ok (.iload 5, 2) := by decide +kernel
theorem dX1_tiePart_51 : decode cX1_tiePart 51 = .ok (.invokevirtual 56, 3) := by decide +kernel
theorem dX1_tiePart_54 : decode cX1_tiePart 54 = .ok (.iadd, 1) := by decide +kernel
theorem dX1_tiePart_55 : decode cX1_tiePart 55 = .ok (.ireturn, 1) := by decide +kernel
theorem dX1_tieCord_0 : decode cX1_tieCord 0 = .ok (.aload_n 1, 1) := by decide +kernel
theorem dX1_tieCord_1 : decode cX1_tieCord 1 = .ok (.invokevirtual 60, 3) := by decide +kernel
theorem dX1_tieCord_4 : decode cX1_tieCord 4 = .ok (.istore_n 3, 1) := by decide +kernel
theorem dX1_tieCord_5 : decode cX1_tieCord 5 = .ok (.iload_n 3, 1) := by decide +kernel
theorem dX1_tieCord_6 : decode cX1_tieCord 6 = .ok (.ifCond .ne 7, 3) := by decide +kernel
theorem dX1_tieCord_9 : decode cX1_tieCord 9 = .ok (.iconst 0, 1) := by decide +kernel
theorem dX1_tieCord_10 : decode cX1_tieCord 10 = .ok (.goto 9, 3) := by decide +kernel
theorem dX1_tieCord_13 : decode cX1_tieCord 13 = .ok (.aload_n 0, 1) := by decide +kernel
theorem dX1_tieCord_14 : decode cX1_tieCord 14 = .ok (.aload_n 2, 1) := by decide +kernel
theorem dX1_tieCord_15 : decode cX1_tieCord 15 = .ok (.iload_n 3, 1) := by decide +kernel
theorem dX1_tieCord_16 : decode cX1_tieCord 16 = .ok (.invokevirtual 63, 3) := by decide +kernel
theorem dX1_tieCord_19 : decode cX1_tieCord 19 = .ok (.ireturn, 1) := by decide +kernel
theorem dX1_tieLack_0 : decode cX1_tieLack 0 = .ok (.aload_n 1, 1) := by decide +kernel
theorem dX1_tieLack_1 : decode cX1_tieLack 1 = .ok (.invokevirtual 67, 3) := by decide +kernel
theorem dX1_tieLack_4 : decode cX1_tieLack 4 = .ok (.istore_n 2, 1) := by decide +kernel
theorem dX1_tieLack_5 : decode cX1_tieLack 5 = .ok (.iload_n 2, 1) := by decide +kernel
theorem dX1_tieLack_6 : decode cX1_tieLack 6 = .ok (.ifCond .ne 5, 3) := by decide +kernel
theorem dX1_tieLack_9 : decode cX1_tieLack 9 = .ok (.iconst 0, 1) := by decide +kernel
theorem dX1_tieLack_10 : decode cX1_tieLack 10 = .ok (.ireturn, 1) := by decide +kernel
theorem dX1_tieLack_11 : decode cX1_tieLack 11 = .ok (.aload_n 1, 1) := by decide +kernel
theorem dX1_tieLack_12 : decode cX1_tieLack 12 = .ok (.iload_n 2, 1) := by decide +kernel
theorem dX1_tieLack_13 : decode cX1_tieLack 13 = .ok (.aload_n 0, 1) := by decide +kernel
theorem dX1_tieLack_14 : decode cX1_tieLack 14 = .ok (.getfield 17, 3) := by decide +kernel
theorem dX1_tieLack_17 : decode cX1_tieLack 17 = .ok (.invokevirtual 70, 3) := by decide +kernel
theorem dX1_tieLack_20 : decode cX1_tieLack 20 = .ok (.istore_n 3, 1) := by decide +kernel
theorem dX1_tieLack_21 : decode cX1_tieLack 21 = .ok (.iload_n 3, 1) := by decide +kernel
theorem dX1_tieLack_22 : decode cX1_tieLack 22 = .ok (.ifCond .eq 16, 3) := by decide +kernel
theorem dX1_tieLack_25 : decode cX1_tieLack 25 = .ok (.aload_n 0, 1) := by decide +kernel
theorem dX1_tieLack_26 : decode cX1_tieLack 26 = .ok (.dup, 1) := by decide +kernel
theorem dX1_tieLack_27 : decode cX1_tieLack 27 = .ok (.getfield 33, 3) := by decide +kernel
theorem dX1_tieLack_30 : decode cX1_tieLack 30 = .ok (.iconst 1, 1) := by decide +kernel
theorem dX1_tieLack_31 : decode cX1_tieLack 31 = .ok (.iadd, 1) := by decide +kernel
theorem dX1_tieLack_32 : decode cX1_tieLack 32 = .ok (.putfield 33, 3) := by decide +kernel
theorem dX1_tieLack_35 : decode cX1_tieLack 35 = .ok (.iload_n 3, 1) := by decide +kernel
theorem dX1_tieLack_36 : decode cX1_tieLack 36 = .ok (.ineg, 1) := by decide +kernel
theorem dX1_tieLack_37 : decode cX1_tieLack 37 = .ok (.ireturn, 1) := by decide +kernel
theorem dX1_tieLack_38 : decode cX1_tieLack 38 = .ok (.aload_n 1, 1) := by decide +kernel
theorem dX1_tieLack_39 : decode cX1_tieLack 39 = .ok (.invokevirtual 45, 3) := by decide +kernel
theorem dX1_tieLack_42 : decode cX1_tieLack 42 = .ok (.istore 4, 2) := by decide +kernel
theorem dX1_tieLack_44 : decode cX1_tieLack 44 = .ok (.aload_n 1, 1) := by decide +kernel
theorem dX1_tieLack_45 : decode cX1_tieLack 45 = .ok (.invokevirtual 49, 3) := by decide +kernel
theorem dX1_tieLack_48 : decode cX1_tieLack 48 = .ok (.istore 5, 2) := by decide +kernel
theorem dX1_tieLack_50 : decode cX1_tieLack 50 = .ok (.aload_n 1, 1) := by decide +kernel
theorem dX1_tieLack_51 : decode cX1_tieLack 51 = .ok (.iload_n 2, 1) := by decide +kernel
theorem dX1_tieLack_52 : decode cX1_tieLack 52 = .ok (.invokevirtual 73, 3) := by decide +kernel
theorem dX1_tieLack_55 : decode cX1_tieLack 55 = .ok (.aload_n 0, 1) := by decide +kernel
theorem dX1_tieLack_56 : decode cX1_tieLack 56 = .ok (.aload_n 1, 1) := by decide +kernel
theorem dX1_tieLack_57 : decode cX1_tieLack 57 = .ok (.iload 4, 2) := by decide +kernel
theorem dX1_tieLack_59 : decode cX1_tieLack 59 = .ok (.iload 5, 2) := by decide +kernel
theorem dX1_tieLack_61 : decode cX1_tieLack 61 = .ok (.invokevirtual 56, 3) := by decide +kernel
theorem dX1_tieLack_64 : decode cX1_tieLack 64 = .ok (.pop, 1) := by decide +kernel
theorem dX1_tieLack_65 : decode cX1_tieLack 65 = .ok (.iload_n 2, 1) := by decide +kernel
theorem dX1_tieLack_66 : decode cX1_tieLack 66 = .ok (.ireturn, 1) := by decide +kernel
theorem dX1_countTied_0 : decode cX1_countTied 0 = .ok (.aload_n 1, 1) := by decide +kernel
theorem dX1_countTied_1 : decode cX1_countTied 1 = .ok (.invokevirtual 49, 3) := by decide +kernel
theorem dX1_countTied_4 : decode cX1_countTied 4 = .ok (.iload_n 3, 1) := by decide +kernel
theorem dX1_countTied_5 : decode cX1_countTied 5 = .ok (.isub, 1) := by decide +kernel
theorem dX1_countTied_6 : decode cX1_countTied 6 = .ok (.istore 4, 2) := by decide +kernel
theorem dX1_countTied_8 : decode cX1_countTied 8 = .ok (.aload_n 0, 1) := by decide +kernel
theorem dX1_countTied_9 : decode cX1_countTied 9 = .ok (.dup, 1) := by decide +kernel
theorem dX1_countTied_10 : decode cX1_countTied 10 = .ok (.getfield 21, 3) := by decide +kernel
theorem dX1_countTied_13 : decode cX1_countTied 13 = .ok (.aload_n 1, 1) := by decide +kernel
theorem dX1_countTied_14 : decode cX1_countTied 14 = .ok (.invokevirtual 45, 3) := by decide +kernel
theorem dX1_countTied_17 : decode cX1_countTied 17 = .ok (.iload_n 2, 1) := by decide +kernel
theorem dX1_countTied_18 : decode cX1_countTied 18 = .ok (.isub, 1) := by decide +kernel
theorem dX1_countTied_19 : decode cX1_countTied 19 = .ok (.iadd, 1) := by decide +kernel
theorem dX1_countTied_20 : decode cX1_countTied 20 = .ok (.putfield 21, 3) := by decide +kernel
theorem dX1_countTied_23 : decode cX1_countTied 23 = .ok (.aload_n 0, 1) := by decide +kernel
theorem dX1_countTied_24 : decode cX1_countTied 24 = .ok (.dup, 1) := by decide +kernel
theorem dX1_countTied_25 : decode cX1_countTied 25 = .ok (.getfield 24, 3) := by decide +kernel
theorem dX1_countTied_28 : decode cX1_countTied 28 = .ok (.iload 4, 2) := by decide +kernel
theorem dX1_countTied_30 : decode cX1_countTied 30 = .ok (.iadd, 1) := by decide +kernel
theorem dX1_countTied_31 : decode cX1_countTied 31 = .ok (.putfield 24, 3) := by decide +kernel
theorem dX1_countTied_34 : decode cX1_countTied 34 = .ok (.iload 4, 2) := by decide +kernel
theorem dX1_countTied_36 : decode cX1_countTied 36 = .ok (.ireturn, 1) := by decide +kernel
theorem dX1_loosen_0 : decode cX1_loosen 0 = .ok (.aload_n 1, 1) := by decide +kernel
theorem dX1_loosen_1 : decode cX1_loosen 1 = .ok (.iload_n 2, 1) := by decide +kernel
theorem dX1_loosen_2 : decode cX1_loosen 2 = .ok (.invokevirtual 76, 3) := by decide +kernel
theorem dX1_loosen_5 : decode cX1_loosen 5 = .ok (.ifCond .ne 15, 3) := by decide +kernel
theorem dX1_loosen_8 : decode cX1_loosen 8 = .ok (.aload_n 0, 1) := by decide +kernel
theorem dX1_loosen_9 : decode cX1_loosen 9 = .ok (.dup, 1) := by decide +kernel
theorem dX1_loosen_10 : decode cX1_loosen 10 = .ok (.getfield 33, 3) := by decide +kernel
theorem dX1_loosen_13 : decode cX1_loosen 13 = .ok (.iconst 1, 1) := by decide +kernel
theorem dX1_loosen_14 : decode cX1_loosen 14 = .ok (.iadd, 1) := by decide +kernel
theorem dX1_loosen_15 : decode cX1_loosen 15 = .ok (.putfield 33, 3) := by decide +kernel
theorem dX1_loosen_18 : decode cX1_loosen 18 = .ok (.iconst (-1), 1) := by decide +kernel
theorem dX1_loosen_19 : decode cX1_loosen 19 = .ok (.ireturn, 1) := by decide +kernel
theorem dX1_loosen_20 : decode cX1_loosen 20 = .ok (.aload_n 1, 1) := by decide +kernel
theorem dX1_loosen_21 : decode cX1_loosen 21 = .ok (.getfield 80, 3) := by decide +kernel
theorem dX1_loosen_24 : decode cX1_loosen 24 = .ok (.iload_n 2, 1) := by decide +kernel
theorem dX1_loosen_25 : decode cX1_loosen 25 = .ok (.dup2, 1) := by decide +kernel
theorem dX1_loosen_26 : decode cX1_loosen 26 = .ok (.iaload, 1) := by decide +kernel
theorem dX1_loosen_27 : decode cX1_loosen 27 = .ok (.iconst 1, 1) := by decide +kernel
theorem dX1_loosen_28 : decode cX1_loosen 28 = .ok (.isub, 1) := by decide +kernel
theorem dX1_loosen_29 : decode cX1_loosen 29 = .ok (.iastore, 1) := by decide +kernel
theorem dX1_loosen_30 : decode cX1_loosen 30 = .ok (.aload_n 1, 1) := by decide +kernel
theorem dX1_loosen_31 : decode cX1_loosen 31 = .ok (.dup, 1) := by decide +kernel
theorem dX1_loosen_32 : decode cX1_loosen 32 = .ok (.getfield 84, 3) := by decide +kernel
theorem dX1_loosen_35 : decode cX1_loosen 35 = .ok (.iconst 1, 1) := by decide +kernel
theorem dX1_loosen_36 : decode cX1_loosen 36 = .ok (.iadd, 1) := by decide +kernel
theorem dX1_loosen_37 : decode cX1_loosen 37 = .ok (.putfield 84, 3) := by decide +kernel
theorem dX1_loosen_40 : decode cX1_loosen 40 = .ok (.aload_n 0, 1) := by decide +kernel
theorem dX1_loosen_41 : decode cX1_loosen 41 = .ok (.dup, 1) := by decide +kernel
theorem dX1_loosen_42 : decode cX1_loosen 42 = .ok (.getfield 27, 3) := by decide +kernel
theorem dX1_loosen_45 : decode cX1_loosen 45 = .ok (.iconst 1, 1) := by decide +kernel
theorem dX1_loosen_46 : decode cX1_loosen 46 = .ok (.iadd, 1) := by decide +kernel
theorem dX1_loosen_47 : decode cX1_loosen 47 = .ok (.putfield 27, 3) := by decide +kernel
theorem dX1_loosen_50 : decode cX1_loosen 50 = .ok (.aload_n 1, 1) := by decide +kernel
theorem dX1_loosen_51 : decode cX1_loosen 51 = .ok (.iload_n 2, 1) := by decide +kernel
theorem dX1_loosen_52 : decode cX1_loosen 52 = .ok (.invokevirtual 76, 3) := by decide +kernel
theorem dX1_loosen_55 : decode cX1_loosen 55 = .ok (.ireturn, 1) := by decide +kernel
theorem dX1_replace_0 : decode cX1_replace 0 = .ok (.aload_n 1, 1) := by decide +kernel
theorem dX1_replace_1 : decode cX1_replace 1 = .ok (.invokevirtual 60, 3) := by decide +kernel
theorem dX1_replace_4 : decode cX1_replace 4 = .ok (.istore_n 2, 1) := by decide +kernel
theorem dX1_replace_5 : decode cX1_replace 5 = .ok (.aload_n 0, 1) := by decide +kernel
theorem dX1_replace_6 : decode cX1_replace 6 = .ok (.dup, 1) := by decide +kernel
theorem dX1_replace_7 : decode cX1_replace 7 = .ok (.getfield 30, 3) := by decide +kernel
theorem dX1_replace_10 : decode cX1_replace 10 = .ok (.aload_n 1, 1) := by decide +kernel
theorem dX1_replace_11 : decode cX1_replace 11 = .ok (.invokevirtual 85, 3) := by decide +kernel
theorem dX1_replace_14 : decode cX1_replace 14 = .ok (.iadd, 1) := by decide +kernel
theorem dX1_replace_15 : decode cX1_replace 15 = .ok (.putfield 30, 3) := by decide +kernel
theorem dX1_replace_18 : decode cX1_replace 18 = .ok (.aload_n 1, 1) := by decide +kernel
theorem dX1_replace_19 : decode cX1_replace 19 = .ok (.invokevirtual 88, 3) := by decide +kernel
theorem dX1_replace_22 : decode cX1_replace 22 = .ok (.iload_n 2, 1) := by decide +kernel
theorem dX1_replace_23 : decode cX1_replace 23 = .ok (.ireturn, 1) := by decide +kernel
theorem dX1_tellEach_0 : decode cX1_tellEach 0 = .ok (.iconst 0, 1) := by decide +kernel
theorem dX1_tellEach_1 : decode cX1_tellEach 1 = .ok (.istore_n 2, 1) := by decide +kernel
theorem dX1_tellEach_2 : decode cX1_tellEach 2 = .ok (.iload_n 2, 1) := by decide +kernel
theorem dX1_tellEach_3 : decode cX1_tellEach 3 = .ok (.bipush 7, 2) := by decide +kernel
theorem dX1_tellEach_5 : decode cX1_tellEach 5 = .ok (.if_icmp .ge 27, 3) := by decide +kernel
theorem dX1_tellEach_8 : decode cX1_tellEach 8 = .ok (.iload_n 2, 1) := by decide +kernel
theorem dX1_tellEach_9 : decode cX1_tellEach 9 = .ok (.aload_n 1, 1) := by decide +kernel
theorem dX1_tellEach_10 : decode cX1_tellEach 10 = .ok (.arraylength, 1) := by decide +kernel
theorem dX1_tellEach_11 : decode cX1_tellEach 11 = .ok (.if_icmp .ge 21, 3) := by decide +kernel
theorem dX1_tellEach_14 : decode cX1_tellEach 14 = .ok (.aload_n 1, 1) := by decide +kernel
theorem dX1_tellEach_15 : decode cX1_tellEach 15 = .ok (.iload_n 2, 1) := by decide +kernel
theorem dX1_tellEach_16 : decode cX1_tellEach 16 = .ok (.aload_n 0, 1) := by decide +kernel
theorem dX1_tellEach_17 : decode cX1_tellEach 17 = .ok (.getfield 11, 3) := by decide +kernel
theorem dX1_tellEach_20 : decode cX1_tellEach 20 = .ok (.iload_n 2, 1) := by decide +kernel
theorem dX1_tellEach_21 : decode cX1_tellEach 21 = .ok (.aaload, 1) := by decide +kernel
theorem dX1_tellEach_22 : decode cX1_tellEach 22 = .ok (.invokevirtual 60, 3) := by decide +kernel
theorem dX1_tellEach_25 : decode cX1_tellEach 25 = .ok (.iastore, 1) := by decide +kernel
theorem dX1_tellEach_26 : decode cX1_tellEach 26 = .ok (.iinc 2 1, 3) := by decide +kernel
theorem dX1_tellEach_29 : decode cX1_tellEach 29 = .ok (.goto (-27), 3) := by decide +kernel
theorem dX1_tellEach_32 : decode cX1_tellEach 32 = .ok (.return_, 1) := by decide +kernel
theorem dX1_told_0 : decode cX1_told 0 = .ok (.iconst 0, 1) := by decide +kernel
theorem dX1_told_1 : decode cX1_told 1 = .ok (.istore_n 1, 1) := by decide +kernel
theorem dX1_told_2 : decode cX1_told 2 = .ok (.aload_n 0, 1) := by decide +kernel
theorem dX1_told_3 : decode cX1_told 3 = .ok (.getfield 11, 3) := by decide +kernel
theorem dX1_told_6 : decode cX1_told 6 = .ok (.astore_n 2, 1) := by decide +kernel
theorem dX1_told_7 : decode cX1_told 7 = .ok (.aload_n 2, 1) := by decide +kernel
theorem dX1_told_8 : decode cX1_told 8 = .ok (.arraylength, 1) := by decide +kernel
theorem dX1_told_9 : decode cX1_told 9 = .ok (.istore_n 3, 1) := by decide +kernel
theorem dX1_told_10 : decode cX1_told 10 = .ok (.iconst 0, 1) := by decide +kernel
theorem dX1_told_11 : decode cX1_told 11 = .ok (.istore 4, 2) := by decide +kernel
theorem dX1_told_13 : decode cX1_told 13 = .ok (.iload 4, 2) := by decide +kernel
theorem dX1_told_15 : decode cX1_told 15 = .ok (.iload_n 3, 1) := by decide +kernel
theorem dX1_told_16 : decode cX1_told 16 = .ok (.if_icmp .ge 23, 3) := by decide +kernel
theorem dX1_told_19 : decode cX1_told 19 = .ok (.aload_n 2, 1) := by decide +kernel
theorem dX1_told_20 : decode cX1_told 20 = .ok (.iload 4, 2) := by decide +kernel
theorem dX1_told_22 : decode cX1_told 22 = .ok (.aaload, 1) := by decide +kernel
theorem dX1_told_23 : decode cX1_told 23 = .ok (.astore 5, 2) := by decide +kernel
theorem dX1_told_25 : decode cX1_told 25 = .ok (.iload_n 1, 1) := by decide +kernel
theorem dX1_told_26 : decode cX1_told 26 = .ok (.aload 5, 2) := by decide +kernel
theorem dX1_told_28 : decode cX1_told 28 = .ok (.invokevirtual 60, 3) := by decide +kernel
theorem dX1_told_31 : decode cX1_told 31 = .ok (.iadd, 1) := by decide +kernel
theorem dX1_told_32 : decode cX1_told 32 = .ok (.istore_n 1, 1) := by decide +kernel
theorem dX1_told_33 : decode cX1_told 33 = .ok (.iinc 4 1, 3) := by decide +kernel
theorem dX1_told_36 : decode cX1_told 36 = .ok (.goto (-23), 3) := by decide +kernel
theorem dX1_told_39 : decode cX1_told 39 = .ok (.iload_n 1, 1) := by decide +kernel
theorem dX1_told_40 : decode cX1_told 40 = .ok (.ireturn, 1) := by decide +kernel
theorem dX1_toldInHue_0 : decode cX1_toldInHue 0 = .ok (.iconst 0, 1) := by decide +kernel
theorem dX1_toldInHue_1 : decode cX1_toldInHue 1 = .ok (.istore_n 2, 1) := by decide +kernel
theorem dX1_toldInHue_2 : decode cX1_toldInHue 2 = .ok (.aload_n 0, 1) := by decide +kernel
theorem dX1_toldInHue_3 : decode cX1_toldInHue 3 = .ok (.getfield 11, 3) := by decide +kernel
theorem dX1_toldInHue_6 : decode cX1_toldInHue 6 = .ok (.astore_n 3, 1) := by decide +kernel
theorem dX1_toldInHue_7 : decode cX1_toldInHue 7 = .ok (.aload_n 3, 1) := by decide +kernel
theorem dX1_toldInHue_8 : decode cX1_toldInHue 8 = .ok (.arraylength, 1) := by decide +kernel
theorem dX1_toldInHue_9 : decode cX1_toldInHue 9 = .ok (.istore 4, 2) := by decide +kernel
theorem dX1_toldInHue_11 : decode cX1_toldInHue 11 = .ok (.iconst 0, 1) := by decide +kernel
theorem dX1_toldInHue_12 : decode cX1_toldInHue 12 = .ok (.istore 5, 2) := by decide +kernel
theorem dX1_toldInHue_14 : decode cX1_toldInHue 14 = .ok (.iload 5, 2) := by decide +kernel
theorem dX1_toldInHue_16 : decode cX1_toldInHue 16 = .ok (.iload 4, 2) := by decide +kernel
theorem dX1_toldInHue_18 : decode cX1_toldInHue 18 = .ok (.if_icmp .ge 32, 3) := by decide +kernel
theorem dX1_toldInHue_21 : decode cX1_toldInHue 21 = .ok (.aload_n 3, 1) := by decide +kernel
theorem dX1_toldInHue_22 : decode cX1_toldInHue 22 = .ok (.iload 5, 2) := by decide +kernel
theorem dX1_toldInHue_24 : decode cX1_toldInHue 24 = .ok (.aaload, 1) := by decide +kernel
theorem dX1_toldInHue_25 : decode cX1_toldInHue 25 = .ok (.astore 6, 2) := by decide +kernel
theorem dX1_toldInHue_27 : decode cX1_toldInHue 27 = .ok (.aload 6, 2) := by decide +kernel
theorem dX1_toldInHue_29 : decode cX1_toldInHue 29 = .ok (.getfield 91, 3) := by decide +kernel
theorem dX1_toldInHue_32 : decode cX1_toldInHue 32 = .ok (.iload_n 1, 1) := by decide +kernel
theorem dX1_toldInHue_33 : decode cX1_toldInHue 33 = .ok (.if_icmp .ne 11, 3) := by decide +kernel
theorem dX1_toldInHue_36 : decode cX1_toldInHue 36 = .ok (.iload_n 2, 1) := by decide +kernel
theorem dX1_toldInHue_37 : decode cX1_toldInHue 37 = .ok (.aload 6, 2) := by decide +kernel
theorem dX1_toldInHue_39 : decode cX1_toldInHue 39 = .ok (.invokevirtual 60, 3) := by decide +kernel
theorem dX1_toldInHue_42 : decode cX1_toldInHue 42 = .ok (.iadd, 1) := by decide +kernel
theorem dX1_toldInHue_43 : decode cX1_toldInHue 43 = .ok (.istore_n 2, 1) := by decide +kernel
theorem dX1_toldInHue_44 : decode cX1_toldInHue 44 = .ok (.iinc 5 1, 3) := by decide +kernel
theorem dX1_toldInHue_47 : decode cX1_toldInHue 47 = .ok (.goto (-33), 3) := by decide +kernel
theorem dX1_toldInHue_50 : decode cX1_toldInHue 50 = .ok (.iload_n 2, 1) := by decide +kernel
theorem dX1_toldInHue_51 : decode cX1_toldInHue 51 = .ok (.ireturn, 1) := by decide +kernel
theorem dX1_knots_0 : decode cX1_knots 0 = .ok (.iconst 0, 1) := by decide +kernel
theorem dX1_knots_1 : decode cX1_knots 1 = .ok (.istore_n 1, 1) := by decide +kernel
theorem dX1_knots_2 : decode cX1_knots 2 = .ok (.aload_n 0, 1) := by decide +kernel
theorem dX1_knots_3 : decode cX1_knots 3 = .ok (.getfield 11, 3) := by decide +kernel
theorem dX1_knots_6 : decode cX1_knots 6 = .ok (.astore_n 2, 1) := by decide +kernel
theorem dX1_knots_7 : decode cX1_knots 7 = .ok (.aload_n 2, 1) := by decide +kernel
theorem dX1_knots_8 : decode cX1_knots 8 = .ok (.arraylength, 1) := by decide +kernel
theorem dX1_knots_9 : decode cX1_knots 9 = .ok (.istore_n 3, 1) := by decide +kernel
theorem dX1_knots_10 : decode cX1_knots 10 = .ok (.iconst 0, 1) := by decide +kernel
theorem dX1_knots_11 : decode cX1_knots 11 = .ok (.istore 4, 2) := by decide +kernel
theorem dX1_knots_13 : decode cX1_knots 13 = .ok (.iload 4, 2) := by decide +kernel
theorem dX1_knots_15 : decode cX1_knots 15 = .ok (.iload_n 3, 1) := by decide +kernel
theorem dX1_knots_16 : decode cX1_knots 16 = .ok (.if_icmp .ge 23, 3) := by decide +kernel
theorem dX1_knots_19 : decode cX1_knots 19 = .ok (.aload_n 2, 1) := by decide +kernel
theorem dX1_knots_20 : decode cX1_knots 20 = .ok (.iload 4, 2) := by decide +kernel
theorem dX1_knots_22 : decode cX1_knots 22 = .ok (.aaload, 1) := by decide +kernel
theorem dX1_knots_23 : decode cX1_knots 23 = .ok (.astore 5, 2) := by decide +kernel
theorem dX1_knots_25 : decode cX1_knots 25 = .ok (.iload_n 1, 1) := by decide +kernel
theorem dX1_knots_26 : decode cX1_knots 26 = .ok (.aload 5, 2) := by decide +kernel
theorem dX1_knots_28 : decode cX1_knots 28 = .ok (.invokevirtual 45, 3) := by decide +kernel
theorem dX1_knots_31 : decode cX1_knots 31 = .ok (.iadd, 1) := by decide +kernel
theorem dX1_knots_32 : decode cX1_knots 32 = .ok (.istore_n 1, 1) := by decide +kernel
theorem dX1_knots_33 : decode cX1_knots 33 = .ok (.iinc 4 1, 3) := by decide +kernel
theorem dX1_knots_36 : decode cX1_knots 36 = .ok (.goto (-23), 3) := by decide +kernel
theorem dX1_knots_39 : decode cX1_knots 39 = .ok (.iload_n 1, 1) := by decide +kernel
theorem dX1_knots_40 : decode cX1_knots 40 = .ok (.ireturn, 1) := by decide +kernel
theorem dX1_loops_0 : decode cX1_loops 0 = .ok (.iconst 0, 1) := by decide +kernel
theorem dX1_loops_1 : decode cX1_loops 1 = .ok (.istore_n 1, 1) := by decide +kernel
theorem dX1_loops_2 : decode cX1_loops 2 = .ok (.aload_n 0, 1) := by decide +kernel
theorem dX1_loops_3 : decode cX1_loops 3 = .ok (.getfield 11, 3) := by decide +kernel
theorem dX1_loops_6 : decode cX1_loops 6 = .ok (.astore_n 2, 1) := by decide +kernel
theorem dX1_loops_7 : decode cX1_loops 7 = .ok (.aload_n 2, 1) := by decide +kernel
theorem dX1_loops_8 : decode cX1_loops 8 = .ok (.arraylength, 1) := by decide +kernel
theorem dX1_loops_9 : decode cX1_loops 9 = .ok (.istore_n 3, 1) := by decide +kernel
theorem dX1_loops_10 : decode cX1_loops 10 = .ok (.iconst 0, 1) := by decide +kernel
theorem dX1_loops_11 : decode cX1_loops 11 = .ok (.istore 4, 2) := by decide +kernel
theorem dX1_loops_13 : decode cX1_loops 13 = .ok (.iload 4, 2) := by decide +kernel
theorem dX1_loops_15 : decode cX1_loops 15 = .ok (.iload_n 3, 1) := by decide +kernel
theorem dX1_loops_16 : decode cX1_loops 16 = .ok (.if_icmp .ge 23, 3) := by decide +kernel
theorem dX1_loops_19 : decode cX1_loops 19 = .ok (.aload_n 2, 1) := by decide +kernel
theorem dX1_loops_20 : decode cX1_loops 20 = .ok (.iload 4, 2) := by decide +kernel
theorem dX1_loops_22 : decode cX1_loops 22 = .ok (.aaload, 1) := by decide +kernel
theorem dX1_loops_23 : decode cX1_loops 23 = .ok (.astore 5, 2) := by decide +kernel
theorem dX1_loops_25 : decode cX1_loops 25 = .ok (.iload_n 1, 1) := by decide +kernel
theorem dX1_loops_26 : decode cX1_loops 26 = .ok (.aload 5, 2) := by decide +kernel
theorem dX1_loops_28 : decode cX1_loops 28 = .ok (.invokevirtual 49, 3) := by decide +kernel
theorem dX1_loops_31 : decode cX1_loops 31 = .ok (.iadd, 1) := by decide +kernel
theorem dX1_loops_32 : decode cX1_loops 32 = .ok (.istore_n 1, 1) := by decide +kernel
theorem dX1_loops_33 : decode cX1_loops 33 = .ok (.iinc 4 1, 3) := by decide +kernel
theorem dX1_loops_36 : decode cX1_loops 36 = .ok (.goto (-23), 3) := by decide +kernel
theorem dX1_loops_39 : decode cX1_loops 39 = .ok (.iload_n 1, 1) := by decide +kernel
theorem dX1_loops_40 : decode cX1_loops 40 = .ok (.ireturn, 1) := by decide +kernel
theorem dX1_ties_0 : decode cX1_ties 0 = .ok (.aload_n 0, 1) := by decide +kernel
theorem dX1_ties_1 : decode cX1_ties 1 = .ok (.invokevirtual 94, 3) := by decide +kernel
theorem dX1_ties_4 : decode cX1_ties 4 = .ok (.aload_n 0, 1) := by decide +kernel
theorem dX1_ties_5 : decode cX1_ties 5 = .ok (.invokevirtual 96, 3) := by decide +kernel
theorem dX1_ties_8 : decode cX1_ties 8 = .ok (.iadd, 1) := by decide +kernel
theorem dX1_ties_9 : decode cX1_ties 9 = .ok (.ireturn, 1) := by decide +kernel
theorem dX1_lacking_0 : decode cX1_lacking 0 = .ok (.iconst 0, 1) := by decide +kernel
theorem dX1_lacking_1 : decode cX1_lacking 1 = .ok (.istore_n 1, 1) := by decide +kernel
theorem dX1_lacking_2 : decode cX1_lacking 2 = .ok (.aload_n 0, 1) := by decide +kernel
theorem dX1_lacking_3 : decode cX1_lacking 3 = .ok (.getfield 11, 3) := by decide +kernel
theorem dX1_lacking_6 : decode cX1_lacking 6 = .ok (.astore_n 2, 1) := by decide +kernel
theorem dX1_lacking_7 : decode cX1_lacking 7 = .ok (.aload_n 2, 1) := by decide +kernel
theorem dX1_lacking_8 : decode cX1_lacking 8 = .ok (.arraylength, 1) := by decide +kernel
theorem dX1_lacking_9 : decode cX1_lacking 9 = .ok (.istore_n 3, 1) := by decide +kernel
theorem dX1_lacking_10 : decode cX1_lacking 10 = .ok (.iconst 0, 1) := by decide +kernel
theorem dX1_lacking_11 : decode cX1_lacking 11 = .ok (.istore 4, 2) := by decide +kernel
theorem dX1_lacking_13 : decode cX1_lacking 13 = .ok (.iload 4, 2) := by decide +kernel
theorem dX1_lacking_15 : decode cX1_lacking 15 = .ok (.iload_n 3, 1) := by decide +kernel
theorem dX1_lacking_16 : decode cX1_lacking 16 = .ok (.if_icmp .ge 26, 3) := by decide +kernel
theorem dX1_lacking_19 : decode cX1_lacking 19 = .ok (.aload_n 2, 1) := by decide +kernel
theorem dX1_lacking_20 : decode cX1_lacking 20 = .ok (.iload 4, 2) := by decide +kernel
theorem dX1_lacking_22 : decode cX1_lacking 22 = .ok (.aaload, 1) := by decide +kernel
theorem dX1_lacking_23 : decode cX1_lacking 23 = .ok (.astore 5, 2) := by decide +kernel
theorem dX1_lacking_25 : decode cX1_lacking 25 = .ok (.aload 5, 2) := by decide +kernel
theorem dX1_lacking_27 : decode cX1_lacking 27 = .ok (.invokevirtual 67, 3) := by decide +kernel
theorem dX1_lacking_30 : decode cX1_lacking 30 = .ok (.ifCond .le 6, 3) := by decide +kernel
theorem dX1_lacking_33 : decode cX1_lacking 33 = .ok (.iinc 1 1, 3) := by decide +kernel
theorem dX1_lacking_36 : decode cX1_lacking 36 = .ok (.iinc 4 1, 3) := by decide +kernel
theorem dX1_lacking_39 : decode cX1_lacking 39 = .ok (.goto (-26), 3) := by decide +kernel
theorem dX1_lacking_42 : decode cX1_lacking 42 = .ok (.iload_n 1, 1) := by decide +kernel
theorem dX1_lacking_43 : decode cX1_lacking 43 = .ok (.ireturn, 1) := by decide +kernel
theorem dX1_fullestCord_0 : decode cX1_fullestCord 0 = .ok (.iconst 0, 1) := by decide +kernel
theorem dX1_fullestCord_1 : decode cX1_fullestCord 1 = .ok (.istore_n 1, 1) := by decide +kernel
theorem dX1_fullestCord_2 : decode cX1_fullestCord 2 = .ok (.iconst 1, 1) := by decide +kernel
theorem dX1_fullestCord_3 : decode cX1_fullestCord 3 = .ok (.istore_n 2, 1) := by decide +kernel
theorem dX1_fullestCord_4 : decode cX1_fullestCord 4 = .ok (.iload_n 2, 1) := by decide +kernel
theorem dX1_fullestCord_5 : decode cX1_fullestCord 5 = .ok (.bipush 7, 2) := by decide +kernel
theorem dX1_fullestCord_7 : decode cX1_fullestCord 7 = .ok (.if_icmp .ge 32, 3) := by decide +kernel
theorem dX1_fullestCord_10 : decode cX1_fullestCord 10 = .ok (.aload_n 0, 1) := by decide +kernel
theorem dX1_fullestCord_11 : decode cX1_fullestCord 11 = .ok (.getfield 11, 3) := by decide +kernel
theorem dX1_fullestCord_14 : decode cX1_fullestCord 14 = .ok (.iload_n 2, 1) := by decide +kernel
theorem dX1_fullestCord_15 : decode cX1_fullestCord 15 = .ok (.aaload, 1) := by decide +kernel
theorem dX1_fullestCord_16 : decode cX1_fullestCord 16 = .ok (.invokevirtual 85, 3) := by decide +kernel
theorem dX1_fullestCord_19 : decode cX1_fullestCord 19 = .ok (.aload_n 0, 1) := by decide +kernel
theorem dX1_fullestCord_20 : decode cX1_fullestCord 20 = .ok (.getfield 11, 3) := by decide +kernel
theorem dX1_fullestCord_23 : decode cX1_fullestCord 23 = .ok (.iload_n 1, 1) := by decide +kernel
theorem dX1_fullestCord_24 : decode cX1_fullestCord 24 = .ok (.aaload, 1) := by decide +kernel
theorem dX1_fullestCord_25 : decode cX1_fullestCord 25 = .ok (.invokevirtual 85, 3) := by decide +kernel
theorem dX1_fullestCord_28 : decode cX1_fullestCord 28 = .ok (.if_icmp .le 5, 3) := by decide +kernel
theorem dX1_fullestCord_31 : decode cX1_fullestCord 31 = .ok (.iload_n 2, 1) := by decide +kernel
theorem dX1_fullestCord_32 : decode cX1_fullestCord 32 = .ok (.istore_n 1, 1) := by decide +kernel
theorem dX1_fullestCord_33 : decode cX1_fullestCord 33 = .ok (.iinc 2 1, 3) := by decide +kernel
theorem dX1_fullestCord_36 : decode cX1_fullestCord 36 = .ok (.goto (-32), 3) := by decide +kernel
theorem dX1_fullestCord_39 : decode cX1_fullestCord 39 = .ok (.iload_n 1, 1) := by decide +kernel
theorem dX1_fullestCord_40 : decode cX1_fullestCord 40 = .ok (.ireturn, 1) := by decide +kernel
theorem dX2_init_0 : decode cX2_init 0 = .ok (.aload_n 0, 1) := by decide +kernel
theorem dX2_init_1 : decode cX2_init 1 = .ok (.invokespecial 3, 3) := by decide +kernel
theorem dX2_init_4 : decode cX2_init 4 = .ok (.aload_n 0, 1) := by decide +kernel
theorem dX2_init_5 : decode cX2_init 5 = .ok (.bipush 6, 2) := by decide +kernel
theorem dX2_init_7 : decode cX2_init 7 = .ok (.anewarray 9, 3) := by decide +kernel
theorem dX2_init_10 : decode cX2_init 10 = .ok (.putfield 11, 3) := by decide +kernel
theorem dX2_init_13 : decode cX2_init 13 = .ok (.aload_n 0, 1) := by decide +kernel
theorem dX2_init_14 : decode cX2_init 14 = .ok (.iconst 0, 1) := by decide +kernel
theorem dX2_init_15 : decode cX2_init 15 = .ok (.putfield 17, 3) := by decide +kernel
theorem dX2_init_18 : decode cX2_init 18 = .ok (.aload_n 0, 1) := by decide +kernel
theorem dX2_init_19 : decode cX2_init 19 = .ok (.iconst 0, 1) := by decide +kernel
theorem dX2_init_20 : decode cX2_init 20 = .ok (.putfield 21, 3) := by decide +kernel
theorem dX2_init_23 : decode cX2_init 23 = .ok (.iconst 0, 1) := by decide +kernel
theorem dX2_init_24 : decode cX2_init 24 = .ok (.istore_n 1, 1) := by decide +kernel
theorem dX2_init_25 : decode cX2_init 25 = .ok (.iload_n 1, 1) := by decide +kernel
theorem dX2_init_26 : decode cX2_init 26 = .ok (.bipush 6, 2) := by decide +kernel
theorem dX2_init_28 : decode cX2_init 28 = .ok (.if_icmp .ge 22, 3) := by decide +kernel
theorem dX2_init_31 : decode cX2_init 31 = .ok (.aload_n 0, 1) := by decide +kernel
theorem dX2_init_32 : decode cX2_init 32 = .ok (.getfield 11, 3) := by decide +kernel
theorem dX2_init_35 : decode cX2_init 35 = .ok (.iload_n 1, 1) := by decide +kernel
theorem dX2_init_36 : decode cX2_init 36 = .ok (.new 9, 3) := by decide +kernel
theorem dX2_init_39 : decode cX2_init 39 = .ok (.dup, 1) := by decide +kernel
theorem dX2_init_40 : decode cX2_init 40 = .ok (.invokespecial 24, 3) := by decide +kernel
theorem dX2_init_43 : decode cX2_init 43 = .ok (.aastore, 1) := by decide +kernel
theorem dX2_init_44 : decode cX2_init 44 = .ok (.iinc 1 1, 3) := by decide +kernel
theorem dX2_init_47 : decode cX2_init 47 = .ok (.goto (-22), 3) := by decide +kernel
theorem dX2_init_50 : decode cX2_init 50 = .ok (.return_, 1) := by decide +kernel
theorem dX2_save_0 : decode cX2_save 0 = .ok (.aload_n 0, 1) := by decide +kernel
theorem dX2_save_1 : decode cX2_save 1 = .ok (.getfield 11, 3) := by decide +kernel
theorem dX2_save_4 : decode cX2_save 4 = .ok (.aload_n 0, 1) := by decide +kernel
theorem dX2_save_5 : decode cX2_save 5 = .ok (.getfield 17, 3) := by decide +kernel
theorem dX2_save_8 : decode cX2_save 8 = .ok (.aaload, 1) := by decide +kernel
theorem dX2_save_9 : decode cX2_save 9 = .ok (.aload_n 1, 1) := by decide +kernel
theorem dX2_save_10 : decode cX2_save 10 = .ok (.invokevirtual 25, 3) := by decide +kernel
theorem dX2_save_13 : decode cX2_save 13 = .ok (.aload_n 0, 1) := by decide +kernel
theorem dX2_save_14 : decode cX2_save 14 = .ok (.aload_n 0, 1) := by decide +kernel
theorem dX2_save_15 : decode cX2_save 15 = .ok (.getfield 17, 3) := by decide +kernel
theorem dX2_save_18 : decode cX2_save 18 = .ok (.iconst 1, 1) := by decide +kernel
theorem dX2_save_19 : decode cX2_save 19 = .ok (.iadd, 1) := by decide +kernel
theorem dX2_save_20 : decode cX2_save 20 = .ok (.bipush 6, 2) := by decide +kernel
theorem dX2_save_22 : decode cX2_save 22 = .ok (.irem, 1) := by decide +kernel
theorem dX2_save_23 : decode cX2_save 23 = .ok (.putfield 17, 3) := by decide +kernel
theorem dX2_save_26 : decode cX2_save 26 = .ok (.aload_n 0, 1) := by decide +kernel
theorem dX2_save_27 : decode cX2_save 27 = .ok (.aload_n 0, 1) := by decide +kernel
theorem dX2_save_28 : decode cX2_save 28 = .ok (.getfield 21, 3) := by decide +kernel
theorem dX2_save_31 : decode cX2_save 31 = .ok (.iconst 1, 1) := by decide +kernel
theorem dX2_save_32 : decode cX2_save 32 = .ok (.iadd, 1) := by decide +kernel
theorem dX2_save_33 : decode cX2_save 33 = .ok (.bipush 6, 2) := by decide +kernel
theorem dX2_save_35 : decode cX2_save 35 = .ok (.invokestatic 29, 3) := by decide +kernel
theorem dX2_save_38 : decode cX2_save 38 = .ok (.putfield 21, 3) := by decide +kernel
theorem dX2_save_41 : decode cX2_save 41 = .ok (.return_, 1) := by decide +kernel
theorem dX2_restore_0 : decode cX2_restore 0 = .ok (.aload_n 0, 1) := by decide +kernel
theorem dX2_restore_1 : decode cX2_restore 1 = .ok (.getfield 21, 3) := by decide +kernel
theorem dX2_restore_4 : decode cX2_restore 4 = .ok (.ifCond .le 42, 3) := by decide +kernel
theorem dX2_restore_7 : decode cX2_restore 7 = .ok (.aload_n 0, 1) := by decide +kernel
theorem dX2_restore_8 : decode cX2_restore 8 = .ok (.dup, 1) := by decide +kernel
theorem dX2_restore_9 : decode cX2_restore 9 = .ok (.getfield 21, 3) := by decide +kernel
theorem dX2_restore_12 : decode cX2_restore 12 = .ok (.iconst 1, 1) := by decide +kernel
theorem dX2_restore_13 : decode cX2_restore 13 = .ok (.isub, 1) := by decide +kernel
theorem dX2_restore_14 : decode cX2_restore 14 = .ok (.putfield 21, 3) := by decide +kernel
theorem dX2_restore_17 : decode cX2_restore 17 = .ok (.aload_n 0, 1) := by decide +kernel
theorem dX2_restore_18 : decode cX2_restore 18 = .ok (.aload_n 0, 1) := by decide +kernel
theorem dX2_restore_19 : decode cX2_restore 19 = .ok (.getfield 17, 3) := by decide +kernel
theorem dX2_restore_22 : decode cX2_restore 22 = .ok (.bipush 6, 2) := by decide +kernel
theorem dX2_restore_24 : decode cX2_restore 24 = .ok (.iadd, 1) := by decide +kernel
theorem dX2_restore_25 : decode cX2_restore 25 = .ok (.iconst 1, 1) := by decide +kernel
theorem dX2_restore_26 : decode cX2_restore 26 = .ok (.isub, 1) := by decide +kernel
theorem dX2_restore_27 : decode cX2_restore 27 = .ok (.bipush 6, 2) := by decide +kernel
theorem dX2_restore_29 : decode cX2_restore 29 = .ok (.irem, 1) := by decide +kernel
theorem dX2_restore_30 : decode cX2_restore 30 = .ok (.putfield 17, 3) := by decide +kernel
theorem dX2_restore_33 : decode cX2_restore 33 = .ok (.aload_n 1, 1) := by decide +kernel
theorem dX2_restore_34 : decode cX2_restore 34 = .ok (.aload_n 0, 1) := by decide +kernel
theorem dX2_restore_35 : decode cX2_restore 35 = .ok (.getfield 11, 3) := by decide +kernel
theorem dX2_restore_38 : decode cX2_restore 38 = .ok (.aload_n 0, 1) := by decide +kernel
theorem dX2_restore_39 : decode cX2_restore 39 = .ok (.getfield 17, 3) := by decide +kernel
theorem dX2_restore_42 : decode cX2_restore 42 = .ok (.aaload, 1) := by decide +kernel
theorem dX2_restore_43 : decode cX2_restore 43 = .ok (.invokevirtual 25, 3) := by decide +kernel
theorem dX2_restore_46 : decode cX2_restore 46 = .ok (.return_, 1) := by decide +kernel
theorem dX3_init_0 : decode cX3_init 0 = .ok (.aload_n 0, 1) := by decide +kernel
theorem dX3_init_1 : decode cX3_init 1 = .ok (.invokespecial 3, 3) := by decide +kernel
theorem dX3_init_4 : decode cX3_init 4 = .ok (.aload_n 0, 1) := by decide +kernel
theorem dX3_init_5 : decode cX3_init 5 = .ok (.iconst 0, 1) := by decide +kernel
theorem dX3_init_6 : decode cX3_init 6 = .ok (.putfield 11, 3) := by decide +kernel
theorem dX3_init_9 : decode cX3_init 9 = .ok (.aload_n 0, 1) := by decide +kernel
theorem dX3_init_10 : decode cX3_init 10 = .ok (.iconst 0, 1) := by decide +kernel
theorem dX3_init_11 : decode cX3_init 11 = .ok (.putfield 15, 3) := by decide +kernel
theorem dX3_init_14 : decode cX3_init 14 = .ok (.aload_n 0, 1) := by decide +kernel
theorem dX3_init_15 : decode cX3_init 15 = .ok (.iconst 0, 1) := by decide +kernel
theorem dX3_init_16 : decode cX3_init 16 = .ok (.putfield 18, 3) := by decide +kernel
theorem dX3_init_19 : decode cX3_init 19 = .ok (.aload_n 0, 1) := by decide +kernel
theorem dX3_init_20 : decode cX3_init 20 = .ok (.bipush 43, 2) := by decide +kernel
theorem dX3_init_22 : decode cX3_init 22 = .ok (.putfield 21, 3) := by decide +kernel
theorem dX3_init_25 : decode cX3_init 25 = .ok (.aload_n 0, 1) := by decide +kernel
theorem dX3_init_26 : decode cX3_init 26 = .ok (.iconst 0, 1) := by decide +kernel
theorem dX3_init_27 : decode cX3_init 27 = .ok (.putfield 25, 3) := by decide +kernel
theorem dX3_init_30 : decode cX3_init 30 = .ok (.return_, 1) := by decide +kernel
theorem dX4_init_0 : decode cX4_init 0 = .ok (.aload_n 0, 1) := by decide +kernel
theorem dX4_init_1 : decode cX4_init 1 = .ok (.invokespecial 1, 3) := by decide +kernel
theorem dX4_init_4 : decode cX4_init 4 = .ok (.aload_n 0, 1) := by decide +kernel
theorem dX4_init_5 : decode cX4_init 5 = .ok (.new 7, 3) := by decide +kernel
theorem dX4_init_8 : decode cX4_init 8 = .ok (.dup, 1) := by decide +kernel
theorem dX4_init_9 : decode cX4_init 9 = .ok (.invokespecial 9, 3) := by decide +kernel
theorem dX4_init_12 : decode cX4_init 12 = .ok (.putfield 10, 3) := by decide +kernel
theorem dX4_init_15 : decode cX4_init 15 = .ok (.aload_n 0, 1) := by decide +kernel
theorem dX4_init_16 : decode cX4_init 16 = .ok (.new 16, 3) := by decide +kernel
theorem dX4_init_19 : decode cX4_init 19 = .ok (.dup, 1) := by decide +kernel
theorem dX4_init_20 : decode cX4_init 20 = .ok (.invokespecial 18, 3) := by decide +kernel
theorem dX4_init_23 : decode cX4_init 23 = .ok (.putfield 19, 3) := by decide +kernel
theorem dX4_init_26 : decode cX4_init 26 = .ok (.aload_n 0, 1) := by decide +kernel
theorem dX4_init_27 : decode cX4_init 27 = .ok (.iconst 2, 1) := by decide +kernel
theorem dX4_init_28 : decode cX4_init 28 = .ok (.anewarray 7, 3) := by decide +kernel
theorem dX4_init_31 : decode cX4_init 31 = .ok (.putfield 23, 3) := by decide +kernel
theorem dX4_init_34 : decode cX4_init 34 = .ok (.aload_n 0, 1) := by decide +kernel
theorem dX4_init_35 : decode cX4_init 35 = .ok (.bipush 60, 2) := by decide +kernel
theorem dX4_init_37 : decode cX4_init 37 = .ok (.newarray .char, 2) := by decide +kernel
theorem dX4_init_39 : decode cX4_init 39 = .ok (.putfield 27, 3) := by decide +kernel
theorem dX4_init_42 : decode cX4_init 42 = .ok (.aload_n 0, 1) := by decide +kernel
theorem dX4_init_43 : decode cX4_init 43 = .ok (.iconst 0, 1) := by decide +kernel
theorem dX4_init_44 : decode cX4_init 44 = .ok (.putfield 31, 3) := by decide +kernel
theorem dX4_init_47 : decode cX4_init 47 = .ok (.aload_n 0, 1) := by decide +kernel
theorem dX4_init_48 : decode cX4_init 48 = .ok (.new 35, 3) := by decide +kernel
theorem dX4_init_51 : decode cX4_init 51 = .ok (.dup, 1) := by decide +kernel
theorem dX4_init_52 : decode cX4_init 52 = .ok (.invokespecial 37, 3) := by decide +kernel
theorem dX4_init_55 : decode cX4_init 55 = .ok (.putfield 38, 3) := by decide +kernel
theorem dX4_init_58 : decode cX4_init 58 = .ok (.aload_n 0, 1) := by decide +kernel
theorem dX4_init_59 : decode cX4_init 59 = .ok (.new 42, 3) := by decide +kernel
theorem dX4_init_62 : decode cX4_init 62 = .ok (.dup, 1) := by decide +kernel
theorem dX4_init_63 : decode cX4_init 63 = .ok (.invokespecial 44, 3) := by decide +kernel
theorem dX4_init_66 : decode cX4_init 66 = .ok (.putfield 45, 3) := by decide +kernel
theorem dX4_init_69 : decode cX4_init 69 = .ok (.aload_n 0, 1) := by decide +kernel
theorem dX4_init_70 : decode cX4_init 70 = .ok (.bipush 7, 2) := by decide +kernel
theorem dX4_init_72 : decode cX4_init 72 = .ok (.newarray .int, 2) := by decide +kernel
theorem dX4_init_74 : decode cX4_init 74 = .ok (.putfield 49, 3) := by decide +kernel
theorem dX4_init_77 : decode cX4_init 77 = .ok (.return_, 1) := by decide +kernel
theorem dX4_tie_0 : decode cX4_tie 0 = .ok (.aload_n 0, 1) := by decide +kernel
theorem dX4_tie_1 : decode cX4_tie 1 = .ok (.iload_n 1, 1) := by decide +kernel
theorem dX4_tie_2 : decode cX4_tie 2 = .ok (.invokevirtual 53, 3) := by decide +kernel
theorem dX4_tie_5 : decode cX4_tie 5 = .ok (.astore_n 3, 1) := by decide +kernel
theorem dX4_tie_6 : decode cX4_tie 6 = .ok (.iload_n 2, 1) := by decide +kernel
theorem dX4_tie_7 : decode cX4_tie 7 = .ok (.invokestatic 57, 3) := by decide +kernel
theorem dX4_tie_10 : decode cX4_tie 10 = .ok (.aload_n 0, 1) := by decide +kernel
theorem dX4_tie_11 : decode cX4_tie 11 = .ok (.getfield 19, 3) := by decide +kernel
theorem dX4_tie_14 : decode cX4_tie 14 = .ok (.aload_n 0, 1) := by decide +kernel
theorem dX4_tie_15 : decode cX4_tie 15 = .ok (.getfield 10, 3) := by decide +kernel
theorem dX4_tie_18 : decode cX4_tie 18 = .ok (.invokevirtual 61, 3) := by decide +kernel
theorem dX4_tie_21 : decode cX4_tie 21 = .ok (.aload_n 0, 1) := by decide +kernel
theorem dX4_tie_22 : decode cX4_tie 22 = .ok (.getfield 10, 3) := by decide +kernel
theorem dX4_tie_25 : decode cX4_tie 25 = .ok (.aload_n 3, 1) := by decide +kernel
theorem dX4_tie_26 : decode cX4_tie 26 = .ok (.iload_n 2, 1) := by decide +kernel
theorem dX4_tie_27 : decode cX4_tie 27 = .ok (.invokevirtual 65, 3) := by decide +kernel
theorem dX4_tie_30 : decode cX4_tie 30 = .ok (.ireturn, 1) := by decide +kernel
theorem dX4_add_0 : decode cX4_add 0 = .ok (.aload_n 0, 1) := by decide +kernel
theorem dX4_add_1 : decode cX4_add 1 = .ok (.iload_n 1, 1) := by decide +kernel
theorem dX4_add_2 : decode cX4_add 2 = .ok (.invokevirtual 53, 3) := by decide +kernel
theorem dX4_add_5 : decode cX4_add 5 = .ok (.astore_n 3, 1) := by decide +kernel
theorem dX4_add_6 : decode cX4_add 6 = .ok (.aload_n 0, 1) := by decide +kernel
theorem dX4_add_7 : decode cX4_add 7 = .ok (.iload_n 2, 1) := by decide +kernel
theorem dX4_add_8 : decode cX4_add 8 = .ok (.invokevirtual 53, 3) := by decide +kernel
theorem dX4_add_11 : decode cX4_add 11 = .ok (.astore 4, 2) := by decide +kernel
theorem dX4_add_13 : decode cX4_add 13 = .ok (.iload_n 1, 1) := by decide +kernel
theorem dX4_add_14 : decode cX4_add 14 = .ok (.iload_n 2, 1) := by decide +kernel
theorem dX4_add_15 : decode cX4_add 15 = .ok (.if_icmp .ne 13, 3) := by decide +kernel
theorem dX4_add_18 : decode cX4_add 18 = .ok (.new 69, 3) := by decide +kernel
theorem dX4_add_21 : decode cX4_add 21 = .ok (.dup, 1) := by decide +kernel
theorem dX4_add_22 : decode cX4_add 22 = .ok (.ldc 71, 2) := by decide +kernel
theorem dX4_add_24 : decode cX4_add 24 = .ok (.invokespecial 73, 3) := by decide +kernel
theorem dX4_add_27 : decode cX4_add 27 = .ok (.athrow, 1) := by decide +kernel
theorem dX4_add_28 : decode cX4_add 28 = .ok (.aload_n 0, 1) := by decide +kernel
theorem dX4_add_29 : decode cX4_add 29 = .ok (.getfield 19, 3) := by decide +kernel
theorem dX4_add_32 : decode cX4_add 32 = .ok (.aload_n 0, 1) := by decide +kernel
theorem dX4_add_33 : decode cX4_add 33 = .ok (.getfield 10, 3) := by decide +kernel
theorem dX4_add_36 : decode cX4_add 36 = .ok (.invokevirtual 61, 3) := by decide +kernel
theorem dX4_add_39 : decode cX4_add 39 = .ok (.aload_n 0, 1) := by decide +kernel
theorem dX4_add_40 : decode cX4_add 40 = .ok (.getfield 10, 3) := by decide +kernel
theorem dX4_add_43 : decode cX4_add 43 = .ok (.aload_n 3, 1) := by decide +kernel
theorem dX4_add_44 : decode cX4_add 44 = .ok (.aload 4, 2) := by decide +kernel
theorem dX4_add_46 : decode cX4_add 46 = .ok (.invokevirtual 76, 3) := by decide +kernel
theorem dX4_add_49 : decode cX4_add 49 = .ok (.ireturn, 1) := by decide +kernel
theorem dX4_slip_0 : decode cX4_slip 0 = .ok (.aload_n 0, 1) := by decide +kernel
theorem dX4_slip_1 : decode cX4_slip 1 = .ok (.iload_n 1, 1) := by decide +kernel
theorem dX4_slip_2 : decode cX4_slip 2 = .ok (.invokevirtual 53, 3) := by decide +kernel
theorem dX4_slip_5 : decode cX4_slip 5 = .ok (.astore_n 3, 1) := by decide +kernel
theorem dX4_slip_6 : decode cX4_slip 6 = .ok (.iload_n 2, 1) := by decide +kernel
theorem dX4_slip_7 : decode cX4_slip 7 = .ok (.invokestatic 80, 3) := by decide +kernel
theorem dX4_slip_10 : decode cX4_slip 10 = .ok (.aload_n 0, 1) := by decide +kernel
theorem dX4_slip_11 : decode cX4_slip 11 = .ok (.getfield 19, 3) := by decide +kernel
theorem dX4_slip_14 : decode cX4_slip 14 = .ok (.aload_n 0, 1) := by decide +kernel
theorem dX4_slip_15 : decode cX4_slip 15 = .ok (.getfield 10, 3) := by decide +kernel
theorem dX4_slip_18 : decode cX4_slip 18 = .ok (.invokevirtual 61, 3) := by decide +kernel
theorem dX4_slip_21 : decode cX4_slip 21 = .ok (.aload_n 0, 1) := by decide +kernel
theorem dX4_slip_22 : decode cX4_slip 22 = .ok (.getfield 10, 3) := by decide +kernel
theorem dX4_slip_25 : decode cX4_slip 25 = .ok (.aload_n 3, 1) := by decide +kernel
theorem dX4_slip_26 : decode cX4_slip 26 = .ok (.iload_n 2, 1) := by decide +kernel
theorem dX4_slip_27 : decode cX4_slip 27 = .ok (.invokevirtual 83, 3) := by decide +kernel
theorem dX4_slip_30 : decode cX4_slip 30 = .ok (.ireturn, 1) := by decide +kernel
theorem dX4_mend_0 : decode cX4_mend 0 = .ok (.aload_n 0, 1) := by decide +kernel
theorem dX4_mend_1 : decode cX4_mend 1 = .ok (.iload_n 1, 1) := by decide +kernel
theorem dX4_mend_2 : decode cX4_mend 2 = .ok (.invokevirtual 53, 3) := by decide +kernel
theorem dX4_mend_5 : decode cX4_mend 5 = .ok (.astore_n 2, 1) := by decide +kernel
theorem dX4_mend_6 : decode cX4_mend 6 = .ok (.aload_n 0, 1) := by decide +kernel
theorem dX4_mend_7 : decode cX4_mend 7 = .ok (.getfield 19, 3) := by decide +kernel
theorem dX4_mend_10 : decode cX4_mend 10 = .ok (.aload_n 0, 1) := by decide +kernel
theorem dX4_mend_11 : decode cX4_mend 11 = .ok (.getfield 10, 3) := by decide +kernel
theorem dX4_mend_14 : decode cX4_mend 14 = .ok (.invokevirtual 61, 3) := by decide +kernel
theorem dX4_mend_17 : decode cX4_mend 17 = .ok (.aload_n 0, 1) := by decide +kernel
theorem dX4_mend_18 : decode cX4_mend 18 = .ok (.getfield 10, 3) := by decide +kernel
theorem dX4_mend_21 : decode cX4_mend 21 = .ok (.aload_n 2, 1) := by decide +kernel
theorem dX4_mend_22 : decode cX4_mend 22 = .ok (.invokevirtual 86, 3) := by decide +kernel
theorem dX4_mend_25 : decode cX4_mend 25 = .ok (.ireturn, 1) := by decide +kernel
theorem dX4_renew_0 : decode cX4_renew 0 = .ok (.aload_n 0, 1) := by decide +kernel
theorem dX4_renew_1 : decode cX4_renew 1 = .ok (.iload_n 1, 1) := by decide +kernel
theorem dX4_renew_2 : decode cX4_renew 2 = .ok (.invokevirtual 53, 3) := by decide +kernel
theorem dX4_renew_5 : decode cX4_renew 5 = .ok (.astore_n 2, 1) := by decide +kernel
theorem dX4_renew_6 : decode cX4_renew 6 = .ok (.aload_n 0, 1) := by decide +kernel
theorem dX4_renew_7 : decode cX4_renew 7 = .ok (.getfield 19, 3) := by decide +kernel
theorem dX4_renew_10 : decode cX4_renew 10 = .ok (.aload_n 0, 1) := by decide +kernel
theorem dX4_renew_11 : decode cX4_renew 11 = .ok (.getfield 10, 3) := by decide +kernel
theorem dX4_renew_14 : decode cX4_renew 14 = .ok (.invokevirtual 61, 3) := by decide +kernel
theorem dX4_renew_17 : decode cX4_renew 17 = .ok (.aload_n 0, 1) := by decide +kernel
theorem dX4_renew_18 : decode cX4_renew 18 = .ok (.getfield 10, 3) := by decide +kernel
theorem dX4_renew_21 : decode cX4_renew 21 = .ok (.aload_n 2, 1) := by decide +kernel
theorem dX4_renew_22 : decode cX4_renew 22 = .ok (.invokevirtual 90, 3) := by decide +kernel
theorem dX4_renew_25 : decode cX4_renew 25 = .ok (.ireturn, 1) := by decide +kernel
theorem dX4_dye_0 : decode cX4_dye 0 = .ok (.aload_n 0, 1) := by decide +kernel
theorem dX4_dye_1 : decode cX4_dye 1 = .ok (.iload_n 1, 1) := by decide +kernel
theorem dX4_dye_2 : decode cX4_dye 2 = .ok (.invokevirtual 53, 3) := by decide +kernel
theorem dX4_dye_5 : decode cX4_dye 5 = .ok (.astore_n 3, 1) := by decide +kernel
theorem dX4_dye_6 : decode cX4_dye 6 = .ok (.iload_n 2, 1) := by decide +kernel
theorem dX4_dye_7 : decode cX4_dye 7 = .ok (.invokestatic 93, 3) := by decide +kernel
theorem dX4_dye_10 : decode cX4_dye 10 = .ok (.aload_n 0, 1) := by decide +kernel
theorem dX4_dye_11 : decode cX4_dye 11 = .ok (.getfield 19, 3) := by decide +kernel
theorem dX4_dye_14 : decode cX4_dye 14 = .ok (.aload_n 0, 1) := by decide +kernel
theorem dX4_dye_15 : decode cX4_dye 15 = .ok (.getfield 10, 3) := by decide +kernel
theorem dX4_dye_18 : decode cX4_dye 18 = .ok (.invokevirtual 61, 3) := by decide +kernel
theorem dX4_dye_21 : decode cX4_dye 21 = .ok (.aload_n 3, 1) := by decide +kernel
theorem dX4_dye_22 : decode cX4_dye 22 = .ok (.getfield 96, 3) := by decide +kernel
theorem dX4_dye_25 : decode cX4_dye 25 = .ok (.istore 4, 2) := by decide +kernel
theorem dX4_dye_27 : decode cX4_dye 27 = .ok (.aload_n 3, 1) := by decide +kernel
theorem dX4_dye_28 : decode cX4_dye 28 = .ok (.iload_n 2, 1) := by decide +kernel
theorem dX4_dye_29 : decode cX4_dye 29 = .ok (.putfield 96, 3) := by decide +kernel
theorem dX4_dye_32 : decode cX4_dye 32 = .ok (.iload 4, 2) := by decide +kernel
theorem dX4_dye_34 : decode cX4_dye 34 = .ok (.ireturn, 1) := by decide +kernel
theorem dX4_set_0 : decode cX4_set 0 = .ok (.iload_n 1, 1) := by decide +kernel
theorem dX4_set_1 : decode cX4_set 1 = .ok (.bipush 20, 2) := by decide +kernel
theorem dX4_set_3 : decode cX4_set 3 = .ok (.if_icmp .lt 9, 3) := by decide +kernel
theorem dX4_set_6 : decode cX4_set 6 = .ok (.iload_n 1, 1) := by decide +kernel
theorem dX4_set_7 : decode cX4_set 7 = .ok (.bipush 99, 2) := by decide +kernel
theorem dX4_set_9 : decode cX4_set 9 = .ok (.if_icmp .le 13, 3) := by decide +kernel
theorem dX4_set_12 : decode cX4_set 12 = .ok (.new 69, 3) := by decide +kernel
theorem dX4_set_15 : decode cX4_set 15 = .ok (.dup, 1) := by decide +kernel
theorem dX4_set_16 : decode cX4_set 16 = .ok (.ldc 99, 2) := by decide +kernel
theorem dX4_set_18 : decode cX4_set 18 = .ok (.invokespecial 73, 3) := by decide +kernel
theorem dX4_set_21 : decode cX4_set 21 = .ok (.athrow, 1) := by decide +kernel
theorem dX4_set_22 : decode cX4_set 22 = .ok (.aload_n 0, 1) := by decide +kernel
theorem dX4_set_23 : decode cX4_set 23 = .ok (.getfield 19, 3) := by decide +kernel
theorem dX4_set_26 : decode cX4_set 26 = .ok (.aload_n 0, 1) := by decide +kernel
theorem dX4_set_27 : decode cX4_set 27 = .ok (.getfield 10, 3) := by decide +kernel
theorem dX4_set_30 : decode cX4_set 30 = .ok (.invokevirtual 61, 3) := by decide +kernel
theorem dX4_set_33 : decode cX4_set 33 = .ok (.aload_n 0, 1) := by decide +kernel
theorem dX4_set_34 : decode cX4_set 34 = .ok (.getfield 10, 3) := by decide +kernel
theorem dX4_set_37 : decode cX4_set 37 = .ok (.getfield 101, 3) := by decide +kernel
theorem dX4_set_40 : decode cX4_set 40 = .ok (.istore_n 2, 1) := by decide +kernel
theorem dX4_set_41 : decode cX4_set 41 = .ok (.aload_n 0, 1) := by decide +kernel
theorem dX4_set_42 : decode cX4_set 42 = .ok (.getfield 10, 3) := by decide +kernel
theorem dX4_set_45 : decode cX4_set 45 = .ok (.iload_n 1, 1) := by decide +kernel
theorem dX4_set_46 : decode cX4_set 46 = .ok (.putfield 101, 3) := by decide +kernel
theorem dX4_set_49 : decode cX4_set 49 = .ok (.iload_n 2, 1) := by decide +kernel
theorem dX4_set_50 : decode cX4_set 50 = .ok (.ireturn, 1) := by decide +kernel
theorem dX4_keep_0 : decode cX4_keep 0 = .ok (.iload_n 1, 1) := by decide +kernel
theorem dX4_keep_1 : decode cX4_keep 1 = .ok (.invokestatic 131, 3) := by decide +kernel
theorem dX4_keep_4 : decode cX4_keep 4 = .ok (.aload_n 0, 1) := by decide +kernel
theorem dX4_keep_5 : decode cX4_keep 5 = .ok (.getfield 23, 3) := by decide +kernel
theorem dX4_keep_8 : decode cX4_keep 8 = .ok (.iload_n 1, 1) := by decide +kernel
theorem dX4_keep_9 : decode cX4_keep 9 = .ok (.aaload, 1) := by decide +kernel
theorem dX4_keep_10 : decode cX4_keep 10 = .ok (.astore_n 2, 1) := by decide +kernel
theorem dX4_keep_11 : decode cX4_keep 11 = .ok (.aload_n 2, 1) := by decide +kernel
theorem dX4_keep_12 : decode cX4_keep 12 = .ok (.ifnonnull 18, 3) := by decide +kernel
theorem dX4_keep_15 : decode cX4_keep 15 = .ok (.new 7, 3) := by decide +kernel
theorem dX4_keep_18 : decode cX4_keep 18 = .ok (.dup, 1) := by decide +kernel
theorem dX4_keep_19 : decode cX4_keep 19 = .ok (.invokespecial 9, 3) := by decide +kernel
theorem dX4_keep_22 : decode cX4_keep 22 = .ok (.astore_n 2, 1) := by decide +kernel
theorem dX4_keep_23 : decode cX4_keep 23 = .ok (.aload_n 0, 1) := by decide +kernel
theorem dX4_keep_24 : decode cX4_keep 24 = .ok (.getfield 23, 3) := by decide +kernel
theorem dX4_keep_27 : decode cX4_keep 27 = .ok (.iload_n 1, 1) := by decide +kernel
theorem dX4_keep_28 : decode cX4_keep 28 = .ok (.aload_n 2, 1) := by decide +kernel
theorem dX4_keep_29 : decode cX4_keep 29 = .ok (.aastore, 1) := by decide +kernel
theorem dX4_keep_30 : decode cX4_keep 30 = .ok (.aload_n 2, 1) := by decide +kernel
theorem dX4_keep_31 : decode cX4_keep 31 = .ok (.aload_n 0, 1) := by decide +kernel
theorem dX4_keep_32 : decode cX4_keep 32 = .ok (.getfield 10, 3) := by decide +kernel
theorem dX4_keep_35 : decode cX4_keep 35 = .ok (.invokevirtual 134, 3) := by decide +kernel
theorem dX4_keep_38 : decode cX4_keep 38 = .ok (.aload_n 0, 1) := by decide +kernel
theorem dX4_keep_39 : decode cX4_keep 39 = .ok (.getfield 10, 3) := by decide +kernel
theorem dX4_keep_42 : decode cX4_keep 42 = .ok (.invokevirtual 137, 3) := by decide +kernel
theorem dX4_keep_45 : decode cX4_keep 45 = .ok (.ireturn, 1) := by decide +kernel
theorem dX4_goBack_0 : decode cX4_goBack 0 = .ok (.iload_n 1, 1) := by decide +kernel
theorem dX4_goBack_1 : decode cX4_goBack 1 = .ok (.invokestatic 131, 3) := by decide +kernel
theorem dX4_goBack_4 : decode cX4_goBack 4 = .ok (.aload_n 0, 1) := by decide +kernel
theorem dX4_goBack_5 : decode cX4_goBack 5 = .ok (.getfield 23, 3) := by decide +kernel
theorem dX4_goBack_8 : decode cX4_goBack 8 = .ok (.iload_n 1, 1) := by decide +kernel
theorem dX4_goBack_9 : decode cX4_goBack 9 = .ok (.aaload, 1) := by decide +kernel
theorem dX4_goBack_10 : decode cX4_goBack 10 = .ok (.astore_n 2, 1) := by decide +kernel
theorem dX4_goBack_11 : decode cX4_goBack 11 = .ok (.aload_n 2, 1) := by decide +kernel
theorem dX4_goBack_12 : decode cX4_goBack 12 = .ok (.ifnonnull 13, 3) := by decide +kernel
theorem dX4_goBack_15 : decode cX4_goBack 15 = .ok (.new 106, 3) := by decide +kernel
theorem dX4_goBack_18 : decode cX4_goBack 18 = .ok (.dup, 1) := by decide +kernel
theorem dX4_goBack_19 : decode cX4_goBack 19 = .ok (.ldc 140, 2) := by decide +kernel
theorem dX4_goBack_21 : decode cX4_goBack 21 = .ok (.invokespecial 110, 3) := by decide +kernel
theorem dX4_goBack_24 : decode cX4_goBack 24 = .ok (.athrow, 1) := by decide +kernel
theorem dX4_goBack_25 : decode cX4_goBack 25 = .ok (.aload_n 0, 1) := by decide +kernel
theorem dX4_goBack_26 : decode cX4_goBack 26 = .ok (.getfield 19, 3) := by decide +kernel
theorem dX4_goBack_29 : decode cX4_goBack 29 = .ok (.aload_n 0, 1) := by decide +kernel
theorem dX4_goBack_30 : decode cX4_goBack 30 = .ok (.getfield 10, 3) := by decide +kernel
theorem dX4_goBack_33 : decode cX4_goBack 33 = .ok (.invokevirtual 61, 3) := by decide +kernel
theorem dX4_goBack_36 : decode cX4_goBack 36 = .ok (.aload_n 0, 1) := by decide +kernel
theorem dX4_goBack_37 : decode cX4_goBack 37 = .ok (.getfield 10, 3) := by decide +kernel
theorem dX4_goBack_40 : decode cX4_goBack 40 = .ok (.aload_n 2, 1) := by decide +kernel
theorem dX4_goBack_41 : decode cX4_goBack 41 = .ok (.invokevirtual 134, 3) := by decide +kernel
theorem dX4_goBack_44 : decode cX4_goBack 44 = .ok (.aload_n 0, 1) := by decide +kernel
theorem dX4_goBack_45 : decode cX4_goBack 45 = .ok (.getfield 10, 3) := by decide +kernel
theorem dX4_goBack_48 : decode cX4_goBack 48 = .ok (.invokevirtual 137, 3) := by decide +kernel
theorem dX4_goBack_51 : decode cX4_goBack 51 = .ok (.ireturn, 1) := by decide +kernel
theorem dX4_undo_0 : decode cX4_undo 0 = .ok (.aload_n 0, 1) := by decide +kernel
theorem dX4_undo_1 : decode cX4_undo 1 = .ok (.getfield 19, 3) := by decide +kernel
theorem dX4_undo_4 : decode cX4_undo 4 = .ok (.getfield 142, 3) := by decide +kernel
theorem dX4_undo_7 : decode cX4_undo 7 = .ok (.ifCond .ne 13, 3) := by decide +kernel
theorem dX4_undo_10 : decode cX4_undo 10 = .ok (.new 106, 3) := by decide +kernel
theorem dX4_undo_13 : decode cX4_undo 13 = .ok (.dup, 1) := by decide +kernel
theorem dX4_undo_14 : decode cX4_undo 14 = .ok (.ldc 145, 2) := by decide +kernel
theorem dX4_undo_16 : decode cX4_undo 16 = .ok (.invokespecial 110, 3) := by decide +kernel
theorem dX4_undo_19 : decode cX4_undo 19 = .ok (.athrow, 1) := by decide +kernel
theorem dX4_undo_20 : decode cX4_undo 20 = .ok (.aload_n 0, 1) := by decide +kernel
theorem dX4_undo_21 : decode cX4_undo 21 = .ok (.getfield 19, 3) := by decide +kernel
theorem dX4_undo_24 : decode cX4_undo 24 = .ok (.aload_n 0, 1) := by decide +kernel
theorem dX4_undo_25 : decode cX4_undo 25 = .ok (.getfield 10, 3) := by decide +kernel
theorem dX4_undo_28 : decode cX4_undo 28 = .ok (.invokevirtual 147, 3) := by decide +kernel
theorem dX4_undo_31 : decode cX4_undo 31 = .ok (.aload_n 0, 1) := by decide +kernel
theorem dX4_undo_32 : decode cX4_undo 32 = .ok (.getfield 19, 3) := by decide +kernel
theorem dX4_undo_35 : decode cX4_undo 35 = .ok (.getfield 142, 3) := by decide +kernel
theorem dX4_undo_38 : decode cX4_undo 38 = .ok (.ireturn, 1) := by decide +kernel
theorem dX4_cordOf_0 : decode cX4_cordOf 0 = .ok (.aload_n 0, 1) := by decide +kernel
theorem dX4_cordOf_1 : decode cX4_cordOf 1 = .ok (.iload_n 1, 1) := by decide +kernel
theorem dX4_cordOf_2 : decode cX4_cordOf 2 = .ok (.invokevirtual 53, 3) := by decide +kernel
theorem dX4_cordOf_5 : decode cX4_cordOf 5 = .ok (.astore_n 3, 1) := by decide +kernel
theorem dX4_cordOf_6 : decode cX4_cordOf 6 = .ok (.iload_n 2, 1) := by decide +kernel
theorem dX4_cordOf_7 : decode cX4_cordOf 7 = .ok (.tableswitch 85 0 7 #[45, 50, 55, 60, 65, 70, 75, 80], 45) := by decide +kernel
theorem dX4_cordOf_52 : decode cX4_cordOf 52 = .ok (.aload_n 3, 1) := by decide +kernel
theorem dX4_cordOf_53 : decode cX4_cordOf 53 = .ok (.invokevirtual 150, 3) := by decide +kernel
theorem dX4_cordOf_56 : decode cX4_cordOf 56 = .ok (.ireturn, 1) := by decide +kernel
theorem dX4_cordOf_57 : decode cX4_cordOf 57 = .ok (.aload_n 3, 1) := by decide +kernel
theorem dX4_cordOf_58 : decode cX4_cordOf 58 = .ok (.invokevirtual 152, 3) := by decide +kernel
theorem dX4_cordOf_61 : decode cX4_cordOf 61 = .ok (.ireturn, 1) := by decide +kernel
theorem dX4_cordOf_62 : decode cX4_cordOf 62 = .ok (.aload_n 3, 1) := by decide +kernel
theorem dX4_cordOf_63 : decode cX4_cordOf 63 = .ok (.getfield 155, 3) := by decide +kernel
theorem dX4_cordOf_66 : decode cX4_cordOf 66 = .ok (.ireturn, 1) := by decide +kernel
theorem dX4_cordOf_67 : decode cX4_cordOf 67 = .ok (.aload_n 3, 1) := by decide +kernel
theorem dX4_cordOf_68 : decode cX4_cordOf 68 = .ok (.invokevirtual 158, 3) := by decide +kernel
theorem dX4_cordOf_71 : decode cX4_cordOf 71 = .ok (.ireturn, 1) := by decide +kernel
theorem dX4_cordOf_72 : decode cX4_cordOf 72 = .ok (.aload_n 3, 1) := by decide +kernel
theorem dX4_cordOf_73 : decode cX4_cordOf 73 = .ok (.invokevirtual 161, 3) := by decide +kernel
theorem dX4_cordOf_76 : decode cX4_cordOf 76 = .ok (.ireturn, 1) := by decide +kernel
theorem dX4_cordOf_77 : decode cX4_cordOf 77 = .ok (.aload_n 3, 1) := by decide +kernel
theorem dX4_cordOf_78 : decode cX4_cordOf 78 = .ok (.invokevirtual 162, 3) := by decide +kernel
theorem dX4_cordOf_81 : decode cX4_cordOf 81 = .ok (.ireturn, 1) := by decide +kernel
theorem dX4_cordOf_82 : decode cX4_cordOf 82 = .ok (.aload_n 3, 1) := by decide +kernel
theorem dX4_cordOf_83 : decode cX4_cordOf 83 = .ok (.getfield 96, 3) := by decide +kernel
theorem dX4_cordOf_86 : decode cX4_cordOf 86 = .ok (.ireturn, 1) := by decide +kernel
theorem dX4_cordOf_87 : decode cX4_cordOf 87 = .ok (.aload_n 3, 1) := by decide +kernel
theorem dX4_cordOf_88 : decode cX4_cordOf 88 = .ok (.getfield 165, 3) := by decide +kernel
theorem dX4_cordOf_91 : decode cX4_cordOf 91 = .ok (.ireturn, 1) := by decide +kernel
theorem dX4_cordOf_92 : decode cX4_cordOf 92 = .ok (.new 69, 3) := by decide +kernel
theorem dX4_cordOf_95 : decode cX4_cordOf 95 = .ok (.dup, 1) := by decide +kernel
theorem dX4_cordOf_96 : decode cX4_cordOf 96 = .ok (.ldc 168, 2) := by decide +kernel
theorem dX4_cordOf_98 : decode cX4_cordOf 98 = .ok (.invokespecial 73, 3) := by decide +kernel
theorem dX4_cordOf_101 : decode cX4_cordOf 101 = .ok (.athrow, 1) := by decide +kernel
theorem dX4_placeOf_0 : decode cX4_placeOf 0 = .ok (.aload_n 0, 1) := by decide +kernel
theorem dX4_placeOf_1 : decode cX4_placeOf 1 = .ok (.iload_n 1, 1) := by decide +kernel
theorem dX4_placeOf_2 : decode cX4_placeOf 2 = .ok (.invokevirtual 53, 3) := by decide +kernel
theorem dX4_placeOf_5 : decode cX4_placeOf 5 = .ok (.astore 4, 2) := by decide +kernel
theorem dX4_placeOf_7 : decode cX4_placeOf 7 = .ok (.iload_n 2, 1) := by decide +kernel
theorem dX4_placeOf_8 : decode cX4_placeOf 8 = .ok (.invokestatic 80, 3) := by decide +kernel
theorem dX4_placeOf_11 : decode cX4_placeOf 11 = .ok (.iload_n 3, 1) := by decide +kernel
theorem dX4_placeOf_12 : decode cX4_placeOf 12 = .ok (.tableswitch 74 0 3 #[32, 40, 48, 55], 32) := by decide +kernel
theorem dX4_placeOf_44 : decode cX4_placeOf 44 = .ok (.aload 4, 2) := by decide +kernel
theorem dX4_placeOf_46 : decode cX4_placeOf 46 = .ok (.getfield 170, 3) := by decide +kernel
theorem dX4_placeOf_49 : decode cX4_placeOf 49 = .ok (.iload_n 2, 1) := by decide +kernel
theorem dX4_placeOf_50 : decode cX4_placeOf 50 = .ok (.iaload, 1) := by decide +kernel
theorem dX4_placeOf_51 : decode cX4_placeOf 51 = .ok (.ireturn, 1) := by decide +kernel
theorem dX4_placeOf_52 : decode cX4_placeOf 52 = .ok (.aload 4, 2) := by decide +kernel
theorem dX4_placeOf_54 : decode cX4_placeOf 54 = .ok (.getfield 173, 3) := by decide +kernel
theorem dX4_placeOf_57 : decode cX4_placeOf 57 = .ok (.iload_n 2, 1) := by decide +kernel
theorem dX4_placeOf_58 : decode cX4_placeOf 58 = .ok (.iaload, 1) := by decide +kernel
theorem dX4_placeOf_59 : decode cX4_placeOf 59 = .ok (.ireturn, 1) := by decide +kernel
theorem dX4_placeOf_60 : decode cX4_placeOf 60 = .ok (.aload 4, 2) := by decide +kernel
theorem dX4_placeOf_62 : decode cX4_placeOf 62 = .ok (.iload_n 2, 1) := by decide +kernel
theorem dX4_placeOf_63 : decode cX4_placeOf 63 = .ok (.invokevirtual 176, 3) := by decide +kernel
theorem dX4_placeOf_66 : decode cX4_placeOf 66 = .ok (.ireturn, 1) := by decide +kernel
theorem dX4_placeOf_67 : decode cX4_placeOf 67 = .ok (.iconst 0, 1) := by decide +kernel
theorem dX4_placeOf_68 : decode cX4_placeOf 68 = .ok (.aload_n 0, 1) := by decide +kernel
theorem dX4_placeOf_69 : decode cX4_placeOf 69 = .ok (.getfield 10, 3) := by decide +kernel
theorem dX4_placeOf_72 : decode cX4_placeOf 72 = .ok (.getfield 101, 3) := by decide +kernel
theorem dX4_placeOf_75 : decode cX4_placeOf 75 = .ok (.aload 4, 2) := by decide +kernel
theorem dX4_placeOf_77 : decode cX4_placeOf 77 = .ok (.iload_n 2, 1) := by decide +kernel
theorem dX4_placeOf_78 : decode cX4_placeOf 78 = .ok (.invokevirtual 180, 3) := by decide +kernel
theorem dX4_placeOf_81 : decode cX4_placeOf 81 = .ok (.isub, 1) := by decide +kernel
theorem dX4_placeOf_82 : decode cX4_placeOf 82 = .ok (.invokestatic 183, 3) := by decide +kernel
theorem dX4_placeOf_85 : decode cX4_placeOf 85 = .ok (.ireturn, 1) := by decide +kernel
theorem dX4_placeOf_86 : decode cX4_placeOf 86 = .ok (.new 69, 3) := by decide +kernel
theorem dX4_placeOf_89 : decode cX4_placeOf 89 = .ok (.dup, 1) := by decide +kernel
theorem dX4_placeOf_90 : decode cX4_placeOf 90 = .ok (.ldc 189, 2) := by decide +kernel
theorem dX4_placeOf_92 : decode cX4_placeOf 92 = .ok (.invokespecial 73, 3) := by decide +kernel
theorem dX4_placeOf_95 : decode cX4_placeOf 95 = .ok (.athrow, 1) := by decide +kernel
theorem dX4_part_0 : decode cX4_part 0 = .ok (.aload_n 0, 1) := by decide +kernel
theorem dX4_part_1 : decode cX4_part 1 = .ok (.iload_n 1, 1) := by decide +kernel
theorem dX4_part_2 : decode cX4_part 2 = .ok (.invokevirtual 53, 3) := by decide +kernel
theorem dX4_part_5 : decode cX4_part 5 = .ok (.astore_n 3, 1) := by decide +kernel
theorem dX4_part_6 : decode cX4_part 6 = .ok (.iload_n 2, 1) := by decide +kernel
theorem dX4_part_7 : decode cX4_part 7 = .ok (.ifCond .ge 13, 3) := by decide +kernel
theorem dX4_part_10 : decode cX4_part 10 = .ok (.new 69, 3) := by decide +kernel
theorem dX4_part_13 : decode cX4_part 13 = .ok (.dup, 1) := by decide +kernel
theorem dX4_part_14 : decode cX4_part 14 = .ok (.ldc 191, 2) := by decide +kernel
theorem dX4_part_16 : decode cX4_part 16 = .ok (.invokespecial 73, 3) := by decide +kernel
theorem dX4_part_19 : decode cX4_part 19 = .ok (.athrow, 1) := by decide +kernel
theorem dX4_part_20 : decode cX4_part 20 = .ok (.iload_n 2, 1) := by decide +kernel
theorem dX4_part_21 : decode cX4_part 21 = .ok (.aload_n 3, 1) := by decide +kernel
theorem dX4_part_22 : decode cX4_part 22 = .ok (.getfield 155, 3) := by decide +kernel
theorem dX4_part_25 : decode cX4_part 25 = .ok (.if_icmp .ge 12, 3) := by decide +kernel
theorem dX4_part_28 : decode cX4_part 28 = .ok (.aload_n 3, 1) := by decide +kernel
theorem dX4_part_29 : decode cX4_part 29 = .ok (.getfield 193, 3) := by decide +kernel
theorem dX4_part_32 : decode cX4_part 32 = .ok (.iload_n 2, 1) := by decide +kernel
theorem dX4_part_33 : decode cX4_part 33 = .ok (.iaload, 1) := by decide +kernel
theorem dX4_part_34 : decode cX4_part 34 = .ok (.goto 4, 3) := by decide +kernel
theorem dX4_part_37 : decode cX4_part 37 = .ok (.iconst (-1), 1) := by decide +kernel
theorem dX4_part_38 : decode cX4_part 38 = .ok (.ireturn, 1) := by decide +kernel
theorem dX4_count_0 : decode cX4_count 0 = .ok (.iload_n 1, 1) := by decide +kernel
theorem dX4_count_1 : decode cX4_count 1 = .ok (.tableswitch 135 0 9 #[55, 63, 71, 79, 87, 95, 103, 111, 119, 127], 55) := by decide +kernel
theorem dX4_count_56 : decode cX4_count 56 = .ok (.aload_n 0, 1) := by decide +kernel
theorem dX4_count_57 : decode cX4_count 57 = .ok (.getfield 10, 3) := by decide +kernel
theorem dX4_count_60 : decode cX4_count 60 = .ok (.invokevirtual 196, 3) := by decide +kernel
theorem dX4_count_63 : decode cX4_count 63 = .ok (.ireturn, 1) := by decide +kernel
theorem dX4_count_64 : decode cX4_count 64 = .ok (.aload_n 0, 1) := by decide +kernel
theorem dX4_count_65 : decode cX4_count 65 = .ok (.getfield 10, 3) := by decide +kernel
theorem dX4_count_68 : decode cX4_count 68 = .ok (.invokevirtual 137, 3) := by decide +kernel
theorem dX4_count_71 : decode cX4_count 71 = .ok (.ireturn, 1) := by decide +kernel
theorem dX4_count_72 : decode cX4_count 72 = .ok (.aload_n 0, 1) := by decide +kernel
theorem dX4_count_73 : decode cX4_count 73 = .ok (.getfield 10, 3) := by decide +kernel
theorem dX4_count_76 : decode cX4_count 76 = .ok (.getfield 197, 3) := by decide +kernel
theorem dX4_count_79 : decode cX4_count 79 = .ok (.ireturn, 1) := by decide +kernel
theorem dX4_count_80 : decode cX4_count 80 = .ok (.aload_n 0, 1) := by decide +kernel
theorem dX4_count_81 : decode cX4_count 81 = .ok (.getfield 10, 3) := by decide +kernel
theorem dX4_count_84 : decode cX4_count 84 = .ok (.getfield 200, 3) := by decide +kernel
theorem dX4_count_87 : decode cX4_count 87 = .ok (.ireturn, 1) := by decide +kernel
theorem dX4_count_88 : decode cX4_count 88 = .ok (.aload_n 0, 1) := by decide +kernel
theorem dX4_count_89 : decode cX4_count 89 = .ok (.getfield 10, 3) := by decide +kernel
theorem dX4_count_92 : decode cX4_count 92 = .ok (.getfield 203, 3) := by decide +kernel
theorem dX4_count_95 : decode cX4_count 95 = .ok (.ireturn, 1) := by decide +kernel
theorem dX4_count_96 : decode cX4_count 96 = .ok (.aload_n 0, 1) := by decide +kernel
theorem dX4_count_97 : decode cX4_count 97 = .ok (.getfield 10, 3) := by decide +kernel
theorem dX4_count_100 : decode cX4_count 100 = .ok (.getfield 204, 3) := by decide +kernel
theorem dX4_count_103 : decode cX4_count 103 = .ok (.ireturn, 1) := by decide +kernel
theorem dX4_count_104 : decode cX4_count 104 = .ok (.aload_n 0, 1) := by decide +kernel
theorem dX4_count_105 : decode cX4_count 105 = .ok (.getfield 10, 3) := by decide +kernel
theorem dX4_count_108 : decode cX4_count 108 = .ok (.getfield 207, 3) := by decide +kernel
theorem dX4_count_111 : decode cX4_count 111 = .ok (.ireturn, 1) := by decide +kernel
theorem dX4_count_112 : decode cX4_count 112 = .ok (.aload_n 0, 1) := by decide +kernel
theorem dX4_count_113 : decode cX4_count 113 = .ok (.getfield 10, 3) := by decide +kernel
theorem dX4_count_116 : decode cX4_count 116 = .ok (.invokevirtual 210, 3) := by decide +kernel
theorem dX4_count_119 : decode cX4_count 119 = .ok (.ireturn, 1) := by decide +kernel
theorem dX4_count_120 : decode cX4_count 120 = .ok (.aload_n 0, 1) := by decide +kernel
theorem dX4_count_121 : decode cX4_count 121 = .ok (.getfield 10, 3) := by decide +kernel
theorem dX4_count_124 : decode cX4_count 124 = .ok (.getfield 101, 3) := by decide +kernel
theorem dX4_count_127 : decode cX4_count 127 = .ok (.ireturn, 1) := by decide +kernel
theorem dX4_count_128 : decode cX4_count 128 = .ok (.aload_n 0, 1) := by decide +kernel
theorem dX4_count_129 : decode cX4_count 129 = .ok (.getfield 19, 3) := by decide +kernel
theorem dX4_count_132 : decode cX4_count 132 = .ok (.getfield 142, 3) := by decide +kernel
theorem dX4_count_135 : decode cX4_count 135 = .ok (.ireturn, 1) := by decide +kernel
theorem dX4_count_136 : decode cX4_count 136 = .ok (.new 69, 3) := by decide +kernel
theorem dX4_count_139 : decode cX4_count 139 = .ok (.dup, 1) := by decide +kernel
theorem dX4_count_140 : decode cX4_count 140 = .ok (.ldc 213, 2) := by decide +kernel
theorem dX4_count_142 : decode cX4_count 142 = .ok (.invokespecial 73, 3) := by decide +kernel
theorem dX4_count_145 : decode cX4_count 145 = .ok (.athrow, 1) := by decide +kernel
theorem dX4_byHue_0 : decode cX4_byHue 0 = .ok (.iload_n 1, 1) := by decide +kernel
theorem dX4_byHue_1 : decode cX4_byHue 1 = .ok (.invokestatic 93, 3) := by decide +kernel
theorem dX4_byHue_4 : decode cX4_byHue 4 = .ok (.aload_n 0, 1) := by decide +kernel
theorem dX4_byHue_5 : decode cX4_byHue 5 = .ok (.getfield 10, 3) := by decide +kernel
theorem dX4_byHue_8 : decode cX4_byHue 8 = .ok (.iload_n 1, 1) := by decide +kernel
theorem dX4_byHue_9 : decode cX4_byHue 9 = .ok (.invokevirtual 215, 3) := by decide +kernel
theorem dX4_byHue_12 : decode cX4_byHue 12 = .ok (.ireturn, 1) := by decide +kernel
theorem dX4_whyNot_0 : decode cX4_whyNot 0 = .ok (.aload_n 0, 1) := by decide +kernel
theorem dX4_whyNot_1 : decode cX4_whyNot 1 = .ok (.iload_n 1, 1) := by decide +kernel
theorem dX4_whyNot_2 : decode cX4_whyNot 2 = .ok (.invokevirtual 53, 3) := by decide +kernel
theorem dX4_whyNot_5 : decode cX4_whyNot 5 = .ok (.astore_n 3, 1) := by decide +kernel
theorem dX4_whyNot_6 : decode cX4_whyNot 6 = .ok (.iload_n 2, 1) := by decide +kernel
theorem dX4_whyNot_7 : decode cX4_whyNot 7 = .ok (.invokestatic 57, 3) := by decide +kernel
theorem dX4_whyNot_10 : decode cX4_whyNot 10 = .ok (.aload_n 3, 1) := by decide +kernel
theorem dX4_whyNot_11 : decode cX4_whyNot 11 = .ok (.iload_n 2, 1) := by decide +kernel
theorem dX4_whyNot_12 : decode cX4_whyNot 12 = .ok (.aload_n 0, 1) := by decide +kernel
theorem dX4_whyNot_13 : decode cX4_whyNot 13 = .ok (.getfield 10, 3) := by decide +kernel
theorem dX4_whyNot_16 : decode cX4_whyNot 16 = .ok (.getfield 101, 3) := by decide +kernel
theorem dX4_whyNot_19 : decode cX4_whyNot 19 = .ok (.invokevirtual 218, 3) := by decide +kernel
theorem dX4_whyNot_22 : decode cX4_whyNot 22 = .ok (.ireturn, 1) := by decide +kernel
theorem dX4_howOften_0 : decode cX4_howOften 0 = .ok (.aload_n 0, 1) := by decide +kernel
theorem dX4_howOften_1 : decode cX4_howOften 1 = .ok (.iload_n 1, 1) := by decide +kernel
theorem dX4_howOften_2 : decode cX4_howOften 2 = .ok (.invokevirtual 53, 3) := by decide +kernel
theorem dX4_howOften_5 : decode cX4_howOften 5 = .ok (.astore_n 3, 1) := by decide +kernel
theorem dX4_howOften_6 : decode cX4_howOften 6 = .ok (.iload_n 2, 1) := by decide +kernel
theorem dX4_howOften_7 : decode cX4_howOften 7 = .ok (.invokestatic 57, 3) := by decide +kernel
theorem dX4_howOften_10 : decode cX4_howOften 10 = .ok (.aload_n 0, 1) := by decide +kernel
theorem dX4_howOften_11 : decode cX4_howOften 11 = .ok (.getfield 45, 3) := by decide +kernel
theorem dX4_howOften_14 : decode cX4_howOften 14 = .ok (.aload_n 3, 1) := by decide +kernel
theorem dX4_howOften_15 : decode cX4_howOften 15 = .ok (.invokevirtual 221, 3) := by decide +kernel
theorem dX4_howOften_18 : decode cX4_howOften 18 = .ok (.iconst 0, 1) := by decide +kernel
theorem dX4_howOften_19 : decode cX4_howOften 19 = .ok (.istore 4, 2) := by decide +kernel
theorem dX4_howOften_21 : decode cX4_howOften 21 = .ok (.iload 4, 2) := by decide +kernel
theorem dX4_howOften_23 : decode cX4_howOften 23 = .ok (.bipush 16, 2) := by decide +kernel
theorem dX4_howOften_25 : decode cX4_howOften 25 = .ok (.if_icmp .ge 35, 3) := by decide +kernel
theorem dX4_howOften_28 : decode cX4_howOften 28 = .ok (.aload_n 0, 1) := by decide +kernel
theorem dX4_howOften_29 : decode cX4_howOften 29 = .ok (.getfield 45, 3) := by decide +kernel
theorem dX4_howOften_32 : decode cX4_howOften 32 = .ok (.iload_n 2, 1) := by decide +kernel
theorem dX4_howOften_33 : decode cX4_howOften 33 = .ok (.aload_n 0, 1) := by decide +kernel
theorem dX4_howOften_34 : decode cX4_howOften 34 = .ok (.getfield 10, 3) := by decide +kernel
theorem dX4_howOften_37 : decode cX4_howOften 37 = .ok (.getfield 101, 3) := by decide +kernel
theorem dX4_howOften_40 : decode cX4_howOften 40 = .ok (.invokevirtual 218, 3) := by decide +kernel
theorem dX4_howOften_43 : decode cX4_howOften 43 = .ok (.ifCond .ne 17, 3) := by decide +kernel
theorem dX4_howOften_46 : decode cX4_howOften 46 = .ok (.aload_n 0, 1) := by decide +kernel
theorem dX4_howOften_47 : decode cX4_howOften 47 = .ok (.getfield 45, 3) := by decide +kernel
theorem dX4_howOften_50 : decode cX4_howOften 50 = .ok (.iload_n 2, 1) := by decide +kernel
theorem dX4_howOften_51 : decode cX4_howOften 51 = .ok (.invokevirtual 224, 3) := by decide +kernel
theorem dX4_howOften_54 : decode cX4_howOften 54 = .ok (.iinc 4 1, 3) := by decide +kernel
theorem dX4_howOften_57 : decode cX4_howOften 57 = .ok (.goto (-36), 3) := by decide +kernel
theorem dX4_howOften_60 : decode cX4_howOften 60 = .ok (.iload 4, 2) := by decide +kernel
theorem dX4_howOften_62 : decode cX4_howOften 62 = .ok (.ireturn, 1) := by decide +kernel
theorem dX4_cordsFor_0 : decode cX4_cordsFor 0 = .ok (.iload_n 1, 1) := by decide +kernel
theorem dX4_cordsFor_1 : decode cX4_cordsFor 1 = .ok (.iconst 1, 1) := by decide +kernel
theorem dX4_cordsFor_2 : decode cX4_cordsFor 2 = .ok (.if_icmp .lt 9, 3) := by decide +kernel
theorem dX4_cordsFor_5 : decode cX4_cordsFor 5 = .ok (.iload_n 1, 1) := by decide +kernel
theorem dX4_cordsFor_6 : decode cX4_cordsFor 6 = .ok (.ldc 227, 2) := by decide +kernel
theorem dX4_cordsFor_8 : decode cX4_cordsFor 8 = .ok (.if_icmp .le 13, 3) := by decide +kernel
theorem dX4_cordsFor_11 : decode cX4_cordsFor 11 = .ok (.new 69, 3) := by decide +kernel
theorem dX4_cordsFor_14 : decode cX4_cordsFor 14 = .ok (.dup, 1) := by decide +kernel
theorem dX4_cordsFor_15 : decode cX4_cordsFor 15 = .ok (.ldc 228, 2) := by decide +kernel
theorem dX4_cordsFor_17 : decode cX4_cordsFor 17 = .ok (.invokespecial 73, 3) := by decide +kernel
theorem dX4_cordsFor_20 : decode cX4_cordsFor 20 = .ok (.athrow, 1) := by decide +kernel
theorem dX4_cordsFor_21 : decode cX4_cordsFor 21 = .ok (.iload_n 2, 1) := by decide +kernel
theorem dX4_cordsFor_22 : decode cX4_cordsFor 22 = .ok (.ifCond .eq 18, 3) := by decide +kernel
theorem dX4_cordsFor_25 : decode cX4_cordsFor 25 = .ok (.iload_n 2, 1) := by decide +kernel
theorem dX4_cordsFor_26 : decode cX4_cordsFor 26 = .ok (.iconst 1, 1) := by decide +kernel
theorem dX4_cordsFor_27 : decode cX4_cordsFor 27 = .ok (.if_icmp .eq 13, 3) := by decide +kernel
theorem dX4_cordsFor_30 : decode cX4_cordsFor 30 = .ok (.new 69, 3) := by decide +kernel
theorem dX4_cordsFor_33 : decode cX4_cordsFor 33 = .ok (.dup, 1) := by decide +kernel
theorem dX4_cordsFor_34 : decode cX4_cordsFor 34 = .ok (.ldc 230, 2) := by decide +kernel
theorem dX4_cordsFor_36 : decode cX4_cordsFor 36 = .ok (.invokespecial 73, 3) := by decide +kernel
theorem dX4_cordsFor_39 : decode cX4_cordsFor 39 = .ok (.athrow, 1) := by decide +kernel
theorem dX4_cordsFor_40 : decode cX4_cordsFor 40 = .ok (.aload_n 0, 1) := by decide +kernel
theorem dX4_cordsFor_41 : decode cX4_cordsFor 41 = .ok (.getfield 10, 3) := by decide +kernel
theorem dX4_cordsFor_44 : decode cX4_cordsFor 44 = .ok (.aload_n 0, 1) := by decide +kernel
theorem dX4_cordsFor_45 : decode cX4_cordsFor 45 = .ok (.getfield 49, 3) := by decide +kernel
theorem dX4_cordsFor_48 : decode cX4_cordsFor 48 = .ok (.invokevirtual 232, 3) := by decide +kernel
theorem dX4_cordsFor_51 : decode cX4_cordsFor 51 = .ok (.iload_n 2, 1) := by decide +kernel
theorem dX4_cordsFor_52 : decode cX4_cordsFor 52 = .ok (.ifCond .ne 14, 3) := by decide +kernel
theorem dX4_cordsFor_55 : decode cX4_cordsFor 55 = .ok (.aload_n 0, 1) := by decide +kernel
theorem dX4_cordsFor_56 : decode cX4_cordsFor 56 = .ok (.getfield 49, 3) := by decide +kernel
theorem dX4_cordsFor_59 : decode cX4_cordsFor 59 = .ok (.iload_n 1, 1) := by decide +kernel
theorem dX4_cordsFor_60 : decode cX4_cordsFor 60 = .ok (.invokestatic 236, 3) := by decide +kernel
theorem dX4_cordsFor_63 : decode cX4_cordsFor 63 = .ok (.goto 14, 3) := by decide +kernel
theorem dX4_cordsFor_66 : decode cX4_cordsFor 66 = .ok (.aload_n 0, 1) := by decide +kernel
theorem dX4_cordsFor_67 : decode cX4_cordsFor 67 = .ok (.getfield 49, 3) := by decide +kernel
theorem dX4_cordsFor_70 : decode cX4_cordsFor 70 = .ok (.iconst 0, 1) := by decide +kernel
theorem dX4_cordsFor_71 : decode cX4_cordsFor 71 = .ok (.iload_n 1, 1) := by decide +kernel
theorem dX4_cordsFor_72 : decode cX4_cordsFor 72 = .ok (.iconst 0, 1) := by decide +kernel
theorem dX4_cordsFor_73 : decode cX4_cordsFor 73 = .ok (.iconst (-1), 1) := by decide +kernel
theorem dX4_cordsFor_74 : decode cX4_cordsFor 74 = .ok (.invokestatic 240, 3) := by decide +kernel
theorem dX4_cordsFor_77 : decode cX4_cordsFor 77 = .ok (.ireturn, 1) := by decide +kernel
theorem dX4_fullest_0 : decode cX4_fullest 0 = .ok (.aload_n 0, 1) := by decide +kernel
theorem dX4_fullest_1 : decode cX4_fullest 1 = .ok (.getfield 10, 3) := by decide +kernel
theorem dX4_fullest_4 : decode cX4_fullest 4 = .ok (.invokevirtual 244, 3) := by decide +kernel
theorem dX4_fullest_7 : decode cX4_fullest 7 = .ok (.ireturn, 1) := by decide +kernel
theorem dX4_closedShare_0 : decode cX4_closedShare 0 = .ok (.aload_n 0, 1) := by decide +kernel
theorem dX4_closedShare_1 : decode cX4_closedShare 1 = .ok (.getfield 10, 3) := by decide +kernel
theorem dX4_closedShare_4 : decode cX4_closedShare 4 = .ok (.invokevirtual 247, 3) := by decide +kernel
theorem dX4_closedShare_7 : decode cX4_closedShare 7 = .ok (.istore_n 1, 1) := by decide +kernel
theorem dX4_closedShare_8 : decode cX4_closedShare 8 = .ok (.iload_n 1, 1) := by decide +kernel
theorem dX4_closedShare_9 : decode cX4_closedShare 9 = .ok (.ifCond .ne 7, 3) := by decide +kernel
theorem dX4_closedShare_12 : decode cX4_closedShare 12 = .ok (.dconst 0, 1) := by decide +kernel
theorem dX4_closedShare_13 : decode cX4_closedShare 13 = .ok (.goto 17, 3) := by decide +kernel
theorem dX4_closedShare_16 : decode cX4_closedShare 16 = .ok (.bipush 10, 2) := by decide +kernel
theorem dX4_closedShare_18 : decode cX4_closedShare 18 = .ok (.aload_n 0, 1) := by decide +kernel
theorem dX4_closedShare_19 : decode cX4_closedShare 19 = .ok (.getfield 10, 3) := by decide +kernel
theorem dX4_closedShare_22 : decode cX4_closedShare 22 = .ok (.invokevirtual 249, 3) := by decide +kernel
theorem dX4_closedShare_25 : decode cX4_closedShare 25 = .ok (.imul, 1) := by decide +kernel
theorem dX4_closedShare_26 : decode cX4_closedShare 26 = .ok (.i2d, 1) := by decide +kernel
theorem dX4_closedShare_27 : decode cX4_closedShare 27 = .ok (.iload_n 1, 1) := by decide +kernel
theorem dX4_closedShare_28 : decode cX4_closedShare 28 = .ok (.i2d, 1) := by decide +kernel
theorem dX4_closedShare_29 : decode cX4_closedShare 29 = .ok (.ddiv, 1) := by decide +kernel
theorem dX4_closedShare_30 : decode cX4_closedShare 30 = .ok (.dreturn, 1) := by decide +kernel
theorem dX4_cordAt_0 : decode cX4_cordAt 0 = .ok (.iload_n 1, 1) := by decide +kernel
theorem dX4_cordAt_1 : decode cX4_cordAt 1 = .ok (.ifCond .lt 9, 3) := by decide +kernel
theorem dX4_cordAt_4 : decode cX4_cordAt 4 = .ok (.iload_n 1, 1) := by decide +kernel
theorem dX4_cordAt_5 : decode cX4_cordAt 5 = .ok (.bipush 7, 2) := by decide +kernel
theorem dX4_cordAt_7 : decode cX4_cordAt 7 = .ok (.if_icmp .lt 14, 3) := by decide +kernel
theorem dX4_cordAt_10 : decode cX4_cordAt 10 = .ok (.new 281, 3) := by decide +kernel
theorem dX4_cordAt_13 : decode cX4_cordAt 13 = .ok (.dup, 1) := by decide +kernel
theorem dX4_cordAt_14 : decode cX4_cordAt 14 = .ok (.ldc_w 283, 3) := by decide +kernel
theorem dX4_cordAt_17 : decode cX4_cordAt 17 = .ok (.invokespecial 285, 3) := by decide +kernel
theorem dX4_cordAt_20 : decode cX4_cordAt 20 = .ok (.athrow, 1) := by decide +kernel
theorem dX4_cordAt_21 : decode cX4_cordAt 21 = .ok (.aload_n 0, 1) := by decide +kernel
theorem dX4_cordAt_22 : decode cX4_cordAt 22 = .ok (.getfield 10, 3) := by decide +kernel
theorem dX4_cordAt_25 : decode cX4_cordAt 25 = .ok (.getfield 286, 3) := by decide +kernel
theorem dX4_cordAt_28 : decode cX4_cordAt 28 = .ok (.iload_n 1, 1) := by decide +kernel
theorem dX4_cordAt_29 : decode cX4_cordAt 29 = .ok (.aaload, 1) := by decide +kernel
theorem dX4_cordAt_30 : decode cX4_cordAt 30 = .ok (.areturn, 1) := by decide +kernel
theorem dX4_checkPlace_0 : decode cX4_checkPlace 0 = .ok (.iload_n 0, 1) := by decide +kernel
theorem dX4_checkPlace_1 : decode cX4_checkPlace 1 = .ok (.ifCond .lt 9, 3) := by decide +kernel
theorem dX4_checkPlace_4 : decode cX4_checkPlace 4 = .ok (.iload_n 0, 1) := by decide +kernel
theorem dX4_checkPlace_5 : decode cX4_checkPlace 5 = .ok (.bipush 6, 2) := by decide +kernel
theorem dX4_checkPlace_7 : decode cX4_checkPlace 7 = .ok (.if_icmp .lt 14, 3) := by decide +kernel
theorem dX4_checkPlace_10 : decode cX4_checkPlace 10 = .ok (.new 281, 3) := by decide +kernel
theorem dX4_checkPlace_13 : decode cX4_checkPlace 13 = .ok (.dup, 1) := by decide +kernel
theorem dX4_checkPlace_14 : decode cX4_checkPlace 14 = .ok (.ldc_w 290, 3) := by decide +kernel
theorem dX4_checkPlace_17 : decode cX4_checkPlace 17 = .ok (.invokespecial 285, 3) := by decide +kernel
theorem dX4_checkPlace_20 : decode cX4_checkPlace 20 = .ok (.athrow, 1) := by decide +kernel
theorem dX4_checkPlace_21 : decode cX4_checkPlace 21 = .ok (.return_, 1) := by decide +kernel
theorem dX4_checkNumber_0 : decode cX4_checkNumber 0 = .ok (.iload_n 0, 1) := by decide +kernel
theorem dX4_checkNumber_1 : decode cX4_checkNumber 1 = .ok (.iconst 1, 1) := by decide +kernel
theorem dX4_checkNumber_2 : decode cX4_checkNumber 2 = .ok (.if_icmp .lt 10, 3) := by decide +kernel
theorem dX4_checkNumber_5 : decode cX4_checkNumber 5 = .ok (.iload_n 0, 1) := by decide +kernel
theorem dX4_checkNumber_6 : decode cX4_checkNumber 6 = .ok (.ldc_w 292, 3) := by decide +kernel
theorem dX4_checkNumber_9 : decode cX4_checkNumber 9 = .ok (.if_icmp .le 14, 3) := by decide +kernel
theorem dX4_checkNumber_12 : decode cX4_checkNumber 12 = .ok (.new 69, 3) := by decide +kernel
theorem dX4_checkNumber_15 : decode cX4_checkNumber 15 = .ok (.dup, 1) := by decide +kernel
theorem dX4_checkNumber_16 : decode cX4_checkNumber 16 = .ok (.ldc_w 293, 3) := by decide +kernel
theorem dX4_checkNumber_19 : decode cX4_checkNumber 19 = .ok (.invokespecial 73, 3) := by decide +kernel
theorem dX4_checkNumber_22 : decode cX4_checkNumber 22 = .ok (.athrow, 1) := by decide +kernel
theorem dX4_checkNumber_23 : decode cX4_checkNumber 23 = .ok (.return_, 1) := by decide +kernel
theorem dX4_checkHue_0 : decode cX4_checkHue 0 = .ok (.iload_n 0, 1) := by decide +kernel
theorem dX4_checkHue_1 : decode cX4_checkHue 1 = .ok (.ifCond .lt 9, 3) := by decide +kernel
theorem dX4_checkHue_4 : decode cX4_checkHue 4 = .ok (.iload_n 0, 1) := by decide +kernel
theorem dX4_checkHue_5 : decode cX4_checkHue 5 = .ok (.bipush 6, 2) := by decide +kernel
theorem dX4_checkHue_7 : decode cX4_checkHue 7 = .ok (.if_icmp .lt 14, 3) := by decide +kernel
theorem dX4_checkHue_10 : decode cX4_checkHue 10 = .ok (.new 69, 3) := by decide +kernel
theorem dX4_checkHue_13 : decode cX4_checkHue 13 = .ok (.dup, 1) := by decide +kernel
theorem dX4_checkHue_14 : decode cX4_checkHue 14 = .ok (.ldc_w 295, 3) := by decide +kernel
theorem dX4_checkHue_17 : decode cX4_checkHue 17 = .ok (.invokespecial 73, 3) := by decide +kernel
theorem dX4_checkHue_20 : decode cX4_checkHue 20 = .ok (.athrow, 1) := by decide +kernel
theorem dX4_checkHue_21 : decode cX4_checkHue 21 = .ok (.return_, 1) := by decide +kernel
theorem dX4_checkSlot_0 : decode cX4_checkSlot 0 = .ok (.iload_n 0, 1) := by decide +kernel
theorem dX4_checkSlot_1 : decode cX4_checkSlot 1 = .ok (.ifCond .lt 8, 3) := by decide +kernel
theorem dX4_checkSlot_4 : decode cX4_checkSlot 4 = .ok (.iload_n 0, 1) := by decide +kernel
theorem dX4_checkSlot_5 : decode cX4_checkSlot 5 = .ok (.iconst 2, 1) := by decide +kernel
theorem dX4_checkSlot_6 : decode cX4_checkSlot 6 = .ok (.if_icmp .lt 14, 3) := by decide +kernel
theorem dX4_checkSlot_9 : decode cX4_checkSlot 9 = .ok (.new 69, 3) := by decide +kernel
theorem dX4_checkSlot_12 : decode cX4_checkSlot 12 = .ok (.dup, 1) := by decide +kernel
theorem dX4_checkSlot_13 : decode cX4_checkSlot 13 = .ok (.ldc_w 297, 3) := by decide +kernel
theorem dX4_checkSlot_16 : decode cX4_checkSlot 16 = .ok (.invokespecial 73, 3) := by decide +kernel
theorem dX4_checkSlot_19 : decode cX4_checkSlot 19 = .ok (.athrow, 1) := by decide +kernel
theorem dX4_checkSlot_20 : decode cX4_checkSlot 20 = .ok (.return_, 1) := by decide +kernel
theorem dX4_bestOfAllSets_0 : decode cX4_bestOfAllSets 0 = .ok (.iconst (-1), 1) := by decide +kernel
theorem dX4_bestOfAllSets_1 : decode cX4_bestOfAllSets 1 = .ok (.istore_n 2, 1) := by decide +kernel
theorem dX4_bestOfAllSets_2 : decode cX4_bestOfAllSets 2 = .ok (.iconst 1, 1) := by decide +kernel
theorem dX4_bestOfAllSets_3 : decode cX4_bestOfAllSets 3 = .ok (.istore_n 3, 1) := by decide +kernel
theorem dX4_bestOfAllSets_4 : decode cX4_bestOfAllSets 4 = .ok (.iload_n 3, 1) := by decide +kernel
theorem dX4_bestOfAllSets_5 : decode cX4_bestOfAllSets 5 = .ok (.sipush 128, 3) := by decide +kernel
theorem dX4_bestOfAllSets_8 : decode cX4_bestOfAllSets 8 = .ok (.if_icmp .ge 24, 3) := by decide +kernel
theorem dX4_bestOfAllSets_11 : decode cX4_bestOfAllSets 11 = .ok (.aload_n 0, 1) := by decide +kernel
theorem dX4_bestOfAllSets_12 : decode cX4_bestOfAllSets 12 = .ok (.iload_n 3, 1) := by decide +kernel
theorem dX4_bestOfAllSets_13 : decode cX4_bestOfAllSets 13 = .ok (.invokestatic 309, 3) := by decide +kernel
theorem dX4_bestOfAllSets_16 : decode cX4_bestOfAllSets 16 = .ok (.iload_n 1, 1) := by decide +kernel
theorem dX4_bestOfAllSets_17 : decode cX4_bestOfAllSets 17 = .ok (.if_icmp .ne 9, 3) := by decide +kernel
theorem dX4_bestOfAllSets_20 : decode cX4_bestOfAllSets 20 = .ok (.iload_n 3, 1) := by decide +kernel
theorem dX4_bestOfAllSets_21 : decode cX4_bestOfAllSets 21 = .ok (.iload_n 2, 1) := by decide +kernel
theorem dX4_bestOfAllSets_22 : decode cX4_bestOfAllSets 22 = .ok (.invokestatic 312, 3) := by decide +kernel
theorem dX4_bestOfAllSets_25 : decode cX4_bestOfAllSets 25 = .ok (.istore_n 2, 1) := by decide +kernel
theorem dX4_bestOfAllSets_26 : decode cX4_bestOfAllSets 26 = .ok (.iinc 3 1, 3) := by decide +kernel
theorem dX4_bestOfAllSets_29 : decode cX4_bestOfAllSets 29 = .ok (.goto (-25), 3) := by decide +kernel
theorem dX4_bestOfAllSets_32 : decode cX4_bestOfAllSets 32 = .ok (.iload_n 2, 1) := by decide +kernel
theorem dX4_bestOfAllSets_33 : decode cX4_bestOfAllSets 33 = .ok (.ireturn, 1) := by decide +kernel
theorem dX4_toldBySet_0 : decode cX4_toldBySet 0 = .ok (.iconst 0, 1) := by decide +kernel
theorem dX4_toldBySet_1 : decode cX4_toldBySet 1 = .ok (.istore_n 2, 1) := by decide +kernel
theorem dX4_toldBySet_2 : decode cX4_toldBySet 2 = .ok (.iconst 0, 1) := by decide +kernel
theorem dX4_toldBySet_3 : decode cX4_toldBySet 3 = .ok (.istore_n 3, 1) := by decide +kernel
theorem dX4_toldBySet_4 : decode cX4_toldBySet 4 = .ok (.iload_n 3, 1) := by decide +kernel
theorem dX4_toldBySet_5 : decode cX4_toldBySet 5 = .ok (.bipush 7, 2) := by decide +kernel
theorem dX4_toldBySet_7 : decode cX4_toldBySet 7 = .ok (.if_icmp .ge 24, 3) := by decide +kernel
theorem dX4_toldBySet_10 : decode cX4_toldBySet 10 = .ok (.iload_n 1, 1) := by decide +kernel
theorem dX4_toldBySet_11 : decode cX4_toldBySet 11 = .ok (.iload_n 3, 1) := by decide +kernel
theorem dX4_toldBySet_12 : decode cX4_toldBySet 12 = .ok (.ishr, 1) := by decide +kernel
theorem dX4_toldBySet_13 : decode cX4_toldBySet 13 = .ok (.iconst 1, 1) := by decide +kernel
theorem dX4_toldBySet_14 : decode cX4_toldBySet 14 = .ok (.iand, 1) := by decide +kernel
theorem dX4_toldBySet_15 : decode cX4_toldBySet 15 = .ok (.iconst 1, 1) := by decide +kernel
theorem dX4_toldBySet_16 : decode cX4_toldBySet 16 = .ok (.if_icmp .ne 9, 3) := by decide +kernel
theorem dX4_toldBySet_19 : decode cX4_toldBySet 19 = .ok (.iload_n 2, 1) := by decide +kernel
theorem dX4_toldBySet_20 : decode cX4_toldBySet 20 = .ok (.aload_n 0, 1) := by decide +kernel
theorem dX4_toldBySet_21 : decode cX4_toldBySet 21 = .ok (.iload_n 3, 1) := by decide +kernel
theorem dX4_toldBySet_22 : decode cX4_toldBySet 22 = .ok (.iaload, 1) := by decide +kernel
theorem dX4_toldBySet_23 : decode cX4_toldBySet 23 = .ok (.iadd, 1) := by decide +kernel
theorem dX4_toldBySet_24 : decode cX4_toldBySet 24 = .ok (.istore_n 2, 1) := by decide +kernel
theorem dX4_toldBySet_25 : decode cX4_toldBySet 25 = .ok (.iinc 3 1, 3) := by decide +kernel
theorem dX4_toldBySet_28 : decode cX4_toldBySet 28 = .ok (.goto (-24), 3) := by decide +kernel
theorem dX4_toldBySet_31 : decode cX4_toldBySet 31 = .ok (.iload_n 2, 1) := by decide +kernel
theorem dX4_toldBySet_32 : decode cX4_toldBySet 32 = .ok (.ireturn, 1) := by decide +kernel
theorem dX4_bestByTrying_0 : decode cX4_bestByTrying 0 = .ok (.iload_n 2, 1) := by decide +kernel
theorem dX4_bestByTrying_1 : decode cX4_bestByTrying 1 = .ok (.ifCond .ne 10, 3) := by decide +kernel
theorem dX4_bestByTrying_4 : decode cX4_bestByTrying 4 = .ok (.iload_n 3, 1) := by decide +kernel
theorem dX4_bestByTrying_5 : decode cX4_bestByTrying 5 = .ok (.iload 4, 2) := by decide +kernel
theorem dX4_bestByTrying_7 : decode cX4_bestByTrying 7 = .ok (.invokestatic 312, 3) := by decide +kernel
theorem dX4_bestByTrying_10 : decode cX4_bestByTrying 10 = .ok (.ireturn, 1) := by decide +kernel
theorem dX4_bestByTrying_11 : decode cX4_bestByTrying 11 = .ok (.iload_n 2, 1) := by decide +kernel
theorem dX4_bestByTrying_12 : decode cX4_bestByTrying 12 = .ok (.ifCond .lt 9, 3) := by decide +kernel
theorem dX4_bestByTrying_15 : decode cX4_bestByTrying 15 = .ok (.iload_n 1, 1) := by decide +kernel
theorem dX4_bestByTrying_16 : decode cX4_bestByTrying 16 = .ok (.bipush 7, 2) := by decide +kernel
theorem dX4_bestByTrying_18 : decode cX4_bestByTrying 18 = .ok (.if_icmp .lt 6, 3) := by decide +kernel
theorem dX4_bestByTrying_21 : decode cX4_bestByTrying 21 = .ok (.iload 4, 2) := by decide +kernel
theorem dX4_bestByTrying_23 : decode cX4_bestByTrying 23 = .ok (.ireturn, 1) := by decide +kernel
theorem dX4_bestByTrying_24 : decode cX4_bestByTrying 24 = .ok (.aload_n 0, 1) := by decide +kernel
theorem dX4_bestByTrying_25 : decode cX4_bestByTrying 25 = .ok (.iload_n 1, 1) := by decide +kernel
theorem dX4_bestByTrying_26 : decode cX4_bestByTrying 26 = .ok (.iconst 1, 1) := by decide +kernel
theorem dX4_bestByTrying_27 : decode cX4_bestByTrying 27 = .ok (.iadd, 1) := by decide +kernel
theorem dX4_bestByTrying_28 : decode cX4_bestByTrying 28 = .ok (.iload_n 2, 1) := by decide +kernel
theorem dX4_bestByTrying_29 : decode cX4_bestByTrying 29 = .ok (.aload_n 0, 1) := by decide +kernel
theorem dX4_bestByTrying_30 : decode cX4_bestByTrying 30 = .ok (.iload_n 1, 1) := by decide +kernel
theorem dX4_bestByTrying_31 : decode cX4_bestByTrying 31 = .ok (.iaload, 1) := by decide +kernel
theorem dX4_bestByTrying_32 : decode cX4_bestByTrying 32 = .ok (.isub, 1) := by decide +kernel
theorem dX4_bestByTrying_33 : decode cX4_bestByTrying 33 = .ok (.iload_n 3, 1) := by decide +kernel
theorem dX4_bestByTrying_34 : decode cX4_bestByTrying 34 = .ok (.iconst 1, 1) := by decide +kernel
theorem dX4_bestByTrying_35 : decode cX4_bestByTrying 35 = .ok (.iload_n 1, 1) := by decide +kernel
theorem dX4_bestByTrying_36 : decode cX4_bestByTrying 36 = .ok (.ishl, 1) := by decide +kernel
theorem dX4_bestByTrying_37 : decode cX4_bestByTrying 37 = .ok (.ior, 1) := by decide +kernel
theorem dX4_bestByTrying_38 : decode cX4_bestByTrying 38 = .ok (.iload 4, 2) := by decide +kernel
theorem dX4_bestByTrying_40 : decode cX4_bestByTrying 40 = .ok (.invokestatic 240, 3) := by decide +kernel
theorem dX4_bestByTrying_43 : decode cX4_bestByTrying 43 = .ok (.istore 5, 2) := by decide +kernel
theorem dX4_bestByTrying_45 : decode cX4_bestByTrying 45 = .ok (.aload_n 0, 1) := by decide +kernel
theorem dX4_bestByTrying_46 : decode cX4_bestByTrying 46 = .ok (.iload_n 1, 1) := by decide +kernel
theorem dX4_bestByTrying_47 : decode cX4_bestByTrying 47 = .ok (.iconst 1, 1) := by decide +kernel
theorem dX4_bestByTrying_48 : decode cX4_bestByTrying 48 = .ok (.iadd, 1) := by decide +kernel
theorem dX4_bestByTrying_49 : decode cX4_bestByTrying 49 = .ok (.iload_n 2, 1) := by decide +kernel
theorem dX4_bestByTrying_50 : decode cX4_bestByTrying 50 = .ok (.iload_n 3, 1) := by decide +kernel
theorem dX4_bestByTrying_51 : decode cX4_bestByTrying 51 = .ok (.iload 5, 2) := by decide +kernel
theorem dX4_bestByTrying_53 : decode cX4_bestByTrying 53 = .ok (.invokestatic 240, 3) := by decide +kernel
theorem dX4_bestByTrying_56 : decode cX4_bestByTrying 56 = .ok (.ireturn, 1) := by decide +kernel
theorem dX4_better_0 : decode cX4_better 0 = .ok (.iload_n 1, 1) := by decide +kernel
theorem dX4_better_1 : decode cX4_better 1 = .ok (.iconst (-1), 1) := by decide +kernel
theorem dX4_better_2 : decode cX4_better 2 = .ok (.if_icmp .ne 5, 3) := by decide +kernel
theorem dX4_better_5 : decode cX4_better 5 = .ok (.iload_n 0, 1) := by decide +kernel
theorem dX4_better_6 : decode cX4_better 6 = .ok (.ireturn, 1) := by decide +kernel
theorem dX4_better_7 : decode cX4_better 7 = .ok (.iload_n 0, 1) := by decide +kernel
theorem dX4_better_8 : decode cX4_better 8 = .ok (.invokestatic 315, 3) := by decide +kernel
theorem dX4_better_11 : decode cX4_better 11 = .ok (.iload_n 1, 1) := by decide +kernel
theorem dX4_better_12 : decode cX4_better 12 = .ok (.invokestatic 315, 3) := by decide +kernel
theorem dX4_better_15 : decode cX4_better 15 = .ok (.invokestatic 320, 3) := by decide +kernel
theorem dX4_better_18 : decode cX4_better 18 = .ok (.istore_n 2, 1) := by decide +kernel
theorem dX4_better_19 : decode cX4_better 19 = .ok (.iload_n 2, 1) := by decide +kernel
theorem dX4_better_20 : decode cX4_better 20 = .ok (.ifCond .lt 12, 3) := by decide +kernel
theorem dX4_better_23 : decode cX4_better 23 = .ok (.iload_n 2, 1) := by decide +kernel
theorem dX4_better_24 : decode cX4_better 24 = .ok (.ifCond .ne 12, 3) := by decide +kernel
theorem dX4_better_27 : decode cX4_better 27 = .ok (.iload_n 0, 1) := by decide +kernel
theorem dX4_better_28 : decode cX4_better 28 = .ok (.iload_n 1, 1) := by decide +kernel
theorem dX4_better_29 : decode cX4_better 29 = .ok (.if_icmp .ge 7, 3) := by decide +kernel
theorem dX4_better_32 : decode cX4_better 32 = .ok (.iload_n 0, 1) := by decide +kernel
theorem dX4_better_33 : decode cX4_better 33 = .ok (.goto 4, 3) := by decide +kernel
theorem dX4_better_36 : decode cX4_better 36 = .ok (.iload_n 1, 1) := by decide +kernel
theorem dX4_better_37 : decode cX4_better 37 = .ok (.ireturn, 1) := by decide +kernel
theorem dJ6_compare_7cf53_0 : decode cJ6_compare_7cf53 0 = .ok (.iload_n 0, 1) := by decide +kernel
theorem dJ6_compare_7cf53_1 : decode cJ6_compare_7cf53 1 = .ok (.iload_n 1, 1) := by decide +kernel
theorem dJ6_compare_7cf53_2 : decode cJ6_compare_7cf53 2 = .ok (.if_icmp .ge 7, 3) := by decide +kernel
theorem dJ6_compare_7cf53_5 : decode cJ6_compare_7cf53 5 = .ok (.iconst (-1), 1) := by decide +kernel
theorem dJ6_compare_7cf53_6 : decode cJ6_compare_7cf53 6 = .ok (.goto 13, 3) := by decide +kernel
theorem dJ6_compare_7cf53_9 : decode cJ6_compare_7cf53 9 = .ok (.iload_n 0, 1) := by decide +kernel
theorem dJ6_compare_7cf53_10 : decode cJ6_compare_7cf53 10 = .ok (.iload_n 1, 1) := by decide +kernel
theorem dJ6_compare_7cf53_11 : decode cJ6_compare_7cf53 11 = .ok (.if_icmp .ne 7, 3) := by decide +kernel
theorem dJ6_compare_7cf53_14 : decode cJ6_compare_7cf53 14 = .ok (.iconst 0, 1) := by decide +kernel
theorem dJ6_compare_7cf53_15 : decode cJ6_compare_7cf53 15 = .ok (.goto 4, 3) := by decide +kernel
theorem dJ6_compare_7cf53_18 : decode cJ6_compare_7cf53 18 = .ok (.iconst 1, 1) := by decide +kernel
theorem dJ6_compare_7cf53_19 : decode cJ6_compare_7cf53 19 = .ok (.ireturn, 1) := by decide +kernel
theorem dJ6_bitCount_0f7a4_0 : decode cJ6_bitCount_0f7a4 0 = .ok (.iload_n 0, 1) := by decide +kernel
theorem dJ6_bitCount_0f7a4_1 : decode cJ6_bitCount_0f7a4 1 = .ok (.iload_n 0, 1) := by decide +kernel
theorem dJ6_bitCount_0f7a4_2 : decode cJ6_bitCount_0f7a4 2 = .ok (.iconst 1, 1) := by decide +kernel
theorem dJ6_bitCount_0f7a4_3 : decode cJ6_bitCount_0f7a4 3 = .ok (.iushr, 1) := by decide +kernel
theorem dJ6_bitCount_0f7a4_4 : decode cJ6_bitCount_0f7a4 4 = .ok (.ldc_w 265, 3) := by decide +kernel
theorem dJ6_bitCount_0f7a4_7 : decode cJ6_bitCount_0f7a4 7 = .ok (.iand, 1) := by decide +kernel
theorem dJ6_bitCount_0f7a4_8 : decode cJ6_bitCount_0f7a4 8 = .ok (.isub, 1) := by decide +kernel
theorem dJ6_bitCount_0f7a4_9 : decode cJ6_bitCount_0f7a4 9 = .ok (.istore_n 0, 1) := by decide +kernel
theorem dJ6_bitCount_0f7a4_10 : decode cJ6_bitCount_0f7a4 10 = .ok (.iload_n 0, 1) := by decide +kernel
theorem dJ6_bitCount_0f7a4_11 : decode cJ6_bitCount_0f7a4 11 = .ok (.ldc_w 266, 3) := by decide +kernel
theorem dJ6_bitCount_0f7a4_14 : decode cJ6_bitCount_0f7a4 14 = .ok (.iand, 1) := by decide +kernel
theorem dJ6_bitCount_0f7a4_15 : decode cJ6_bitCount_0f7a4 15 = .ok (.iload_n 0, 1) := by decide +kernel
theorem dJ6_bitCount_0f7a4_16 : decode cJ6_bitCount_0f7a4 16 = .ok (.iconst 2, 1) := by decide +kernel
theorem dJ6_bitCount_0f7a4_17 : decode cJ6_bitCount_0f7a4 17 = .ok (.iushr, 1) := by decide +kernel
theorem dJ6_bitCount_0f7a4_18 : decode cJ6_bitCount_0f7a4 18 = .ok (.ldc_w 266, 3) := by decide +kernel
theorem dJ6_bitCount_0f7a4_21 : decode cJ6_bitCount_0f7a4 21 = .ok (.iand, 1) := by decide +kernel
theorem dJ6_bitCount_0f7a4_22 : decode cJ6_bitCount_0f7a4 22 = .ok (.iadd, 1) := by decide +kernel
theorem dJ6_bitCount_0f7a4_23 : decode cJ6_bitCount_0f7a4 23 = .ok (.istore_n 0, 1) := by decide +kernel
theorem dJ6_bitCount_0f7a4_24 : decode cJ6_bitCount_0f7a4 24 = .ok (.iload_n 0, 1) := by decide +kernel
theorem dJ6_bitCount_0f7a4_25 : decode cJ6_bitCount_0f7a4 25 = .ok (.iload_n 0, 1) := by decide +kernel
theorem dJ6_bitCount_0f7a4_26 : decode cJ6_bitCount_0f7a4 26 = .ok (.iconst 4, 1) := by decide +kernel
theorem dJ6_bitCount_0f7a4_27 : decode cJ6_bitCount_0f7a4 27 = .ok (.iushr, 1) := by decide +kernel
theorem dJ6_bitCount_0f7a4_28 : decode cJ6_bitCount_0f7a4 28 = .ok (.iadd, 1) := by decide +kernel
theorem dJ6_bitCount_0f7a4_29 : decode cJ6_bitCount_0f7a4 29 = .ok (.ldc_w 267, 3) := by decide +kernel
theorem dJ6_bitCount_0f7a4_32 : decode cJ6_bitCount_0f7a4 32 = .ok (.iand, 1) := by decide +kernel
theorem dJ6_bitCount_0f7a4_33 : decode cJ6_bitCount_0f7a4 33 = .ok (.istore_n 0, 1) := by decide +kernel
theorem dJ6_bitCount_0f7a4_34 : decode cJ6_bitCount_0f7a4 34 = .ok (.iload_n 0, 1) := by decide +kernel
theorem dJ6_bitCount_0f7a4_35 : decode cJ6_bitCount_0f7a4 35 = .ok (.iload_n 0, 1) := by decide +kernel
theorem dJ6_bitCount_0f7a4_36 : decode cJ6_bitCount_0f7a4 36 = .ok (.bipush 8, 2) := by decide +kernel
theorem dJ6_bitCount_0f7a4_38 : decode cJ6_bitCount_0f7a4 38 = .ok (.iushr, 1) := by decide +kernel
theorem dJ6_bitCount_0f7a4_39 : decode cJ6_bitCount_0f7a4 39 = .ok (.iadd, 1) := by decide +kernel
theorem dJ6_bitCount_0f7a4_40 : decode cJ6_bitCount_0f7a4 40 = .ok (.istore_n 0, 1) := by decide +kernel
theorem dJ6_bitCount_0f7a4_41 : decode cJ6_bitCount_0f7a4 41 = .ok (.iload_n 0, 1) := by decide +kernel
theorem dJ6_bitCount_0f7a4_42 : decode cJ6_bitCount_0f7a4 42 = .ok (.iload_n 0, 1) := by decide +kernel
theorem dJ6_bitCount_0f7a4_43 : decode cJ6_bitCount_0f7a4 43 = .ok (.bipush 16, 2) := by decide +kernel
theorem dJ6_bitCount_0f7a4_45 : decode cJ6_bitCount_0f7a4 45 = .ok (.iushr, 1) := by decide +kernel
theorem dJ6_bitCount_0f7a4_46 : decode cJ6_bitCount_0f7a4 46 = .ok (.iadd, 1) := by decide +kernel
theorem dJ6_bitCount_0f7a4_47 : decode cJ6_bitCount_0f7a4 47 = .ok (.istore_n 0, 1) := by decide +kernel
theorem dJ6_bitCount_0f7a4_48 : decode cJ6_bitCount_0f7a4 48 = .ok (.iload_n 0, 1) := by decide +kernel
theorem dJ6_bitCount_0f7a4_49 : decode cJ6_bitCount_0f7a4 49 = .ok (.bipush 63, 2) := by decide +kernel
theorem dJ6_bitCount_0f7a4_51 : decode cJ6_bitCount_0f7a4 51 = .ok (.iand, 1) := by decide +kernel
theorem dJ6_bitCount_0f7a4_52 : decode cJ6_bitCount_0f7a4 52 = .ok (.ireturn, 1) := by decide +kernel
theorem dJ9_max_7cf53_0 : decode cJ9_max_7cf53 0 = .ok (.iload_n 0, 1) := by decide +kernel
theorem dJ9_max_7cf53_1 : decode cJ9_max_7cf53 1 = .ok (.iload_n 1, 1) := by decide +kernel
theorem dJ9_max_7cf53_2 : decode cJ9_max_7cf53 2 = .ok (.if_icmp .lt 7, 3) := by decide +kernel
theorem dJ9_max_7cf53_5 : decode cJ9_max_7cf53 5 = .ok (.iload_n 0, 1) := by decide +kernel
theorem dJ9_max_7cf53_6 : decode cJ9_max_7cf53 6 = .ok (.goto 4, 3) := by decide +kernel
theorem dJ9_max_7cf53_9 : decode cJ9_max_7cf53 9 = .ok (.iload_n 1, 1) := by decide +kernel
theorem dJ9_max_7cf53_10 : decode cJ9_max_7cf53 10 = .ok (.ireturn, 1) := by decide +kernel
theorem dJ9_min_7cf53_0 : decode cJ9_min_7cf53 0 = .ok (.iload_n 0, 1) := by decide +kernel
theorem dJ9_min_7cf53_1 : decode cJ9_min_7cf53 1 = .ok (.iload_n 1, 1) := by decide +kernel
theorem dJ9_min_7cf53_2 : decode cJ9_min_7cf53 2 = .ok (.if_icmp .gt 7, 3) := by decide +kernel
theorem dJ9_min_7cf53_5 : decode cJ9_min_7cf53 5 = .ok (.iload_n 0, 1) := by decide +kernel
theorem dJ9_min_7cf53_6 : decode cJ9_min_7cf53 6 = .ok (.goto 4, 3) := by decide +kernel
theorem dJ9_min_7cf53_9 : decode cJ9_min_7cf53 9 = .ok (.iload_n 1, 1) := by decide +kernel
theorem dJ9_min_7cf53_10 : decode cJ9_min_7cf53 10 = .ok (.ireturn, 1) := by decide +kernel
theorem dL_cell_0 : decode cL_cell 0 = .ok (.iload_n 1, 1) := by decide +kernel
theorem dL_cell_1 : decode cL_cell 1 = .ok (.aload_n 0, 1) := by decide +kernel
theorem dL_cell_2 : decode cL_cell 2 = .ok (.arraylength, 1) := by decide +kernel
theorem dL_cell_3 : decode cL_cell 3 = .ok (.if_icmp .ge 9, 3) := by decide +kernel
theorem dL_cell_6 : decode cL_cell 6 = .ok (.aload_n 0, 1) := by decide +kernel
theorem dL_cell_7 : decode cL_cell 7 = .ok (.iload_n 1, 1) := by decide +kernel
theorem dL_cell_8 : decode cL_cell 8 = .ok (.iaload, 1) := by decide +kernel
theorem dL_cell_9 : decode cL_cell 9 = .ok (.goto 11, 3) := by decide +kernel
theorem dL_cell_12 : decode cL_cell 12 = .ok (.ldc 7, 2) := by decide +kernel
theorem dL_cell_14 : decode cL_cell 14 = .ok (.iload_n 1, 1) := by decide +kernel
theorem dL_cell_15 : decode cL_cell 15 = .ok (.imul, 1) := by decide +kernel
theorem dL_cell_16 : decode cL_cell 16 = .ok (.sipush 977, 3) := by decide +kernel
theorem dL_cell_19 : decode cL_cell 19 = .ok (.iadd, 1) := by decide +kernel
theorem dL_cell_20 : decode cL_cell 20 = .ok (.ireturn, 1) := by decide +kernel
theorem dL_low_0 : decode cL_low 0 = .ok (.iload_n 0, 1) := by decide +kernel
theorem dL_low_1 : decode cL_low 1 = .ok (.ldc 8, 2) := by decide +kernel
theorem dL_low_3 : decode cL_low 3 = .ok (.iand, 1) := by decide +kernel
theorem dL_low_4 : decode cL_low 4 = .ok (.iload_n 1, 1) := by decide +kernel
theorem dL_low_5 : decode cL_low 5 = .ok (.irem, 1) := by decide +kernel
theorem dL_low_6 : decode cL_low 6 = .ok (.ireturn, 1) := by decide +kernel
theorem dL_number_0 : decode cL_number 0 = .ok (.iconst 1, 1) := by decide +kernel
theorem dL_number_1 : decode cL_number 1 = .ok (.iload_n 0, 1) := by decide +kernel
theorem dL_number_2 : decode cL_number 2 = .ok (.bipush 6, 2) := by decide +kernel
theorem dL_number_4 : decode cL_number 4 = .ok (.invokestatic 9, 3) := by decide +kernel
theorem dL_number_7 : decode cL_number 7 = .ok (.iadd, 1) := by decide +kernel
theorem dL_number_8 : decode cL_number 8 = .ok (.istore_n 1, 1) := by decide +kernel
theorem dL_number_9 : decode cL_number 9 = .ok (.iconst 0, 1) := by decide +kernel
theorem dL_number_10 : decode cL_number 10 = .ok (.istore_n 2, 1) := by decide +kernel
theorem dL_number_11 : decode cL_number 11 = .ok (.iconst 0, 1) := by decide +kernel
theorem dL_number_12 : decode cL_number 12 = .ok (.istore_n 3, 1) := by decide +kernel
theorem dL_number_13 : decode cL_number 13 = .ok (.iload_n 3, 1) := by decide +kernel
theorem dL_number_14 : decode cL_number 14 = .ok (.iload_n 1, 1) := by decide +kernel
theorem dL_number_15 : decode cL_number 15 = .ok (.if_icmp .ge 43, 3) := by decide +kernel
theorem dL_number_18 : decode cL_number 18 = .ok (.bipush 10, 2) := by decide +kernel
theorem dL_number_20 : decode cL_number 20 = .ok (.iload_n 2, 1) := by decide +kernel
theorem dL_number_21 : decode cL_number 21 = .ok (.imul, 1) := by decide +kernel
theorem dL_number_22 : decode cL_number 22 = .ok (.iload_n 0, 1) := by decide +kernel
theorem dL_number_23 : decode cL_number 23 = .ok (.iconst 4, 1) := by decide +kernel
theorem dL_number_24 : decode cL_number 24 = .ok (.iload_n 3, 1) := by decide +kernel
theorem dL_number_25 : decode cL_number 25 = .ok (.iadd, 1) := by decide +kernel
theorem dL_number_26 : decode cL_number 26 = .ok (.ishr, 1) := by decide +kernel
theorem dL_number_27 : decode cL_number 27 = .ok (.iconst 1, 1) := by decide +kernel
theorem dL_number_28 : decode cL_number 28 = .ok (.iand, 1) := by decide +kernel
theorem dL_number_29 : decode cL_number 29 = .ok (.ifCond .ne 8, 3) := by decide +kernel
theorem dL_number_32 : decode cL_number 32 = .ok (.bipush 9, 2) := by decide +kernel
theorem dL_number_34 : decode cL_number 34 = .ok (.goto 16, 3) := by decide +kernel
theorem dL_number_37 : decode cL_number 37 = .ok (.iload_n 0, 1) := by decide +kernel
theorem dL_number_38 : decode cL_number 38 = .ok (.bipush 10, 2) := by decide +kernel
theorem dL_number_40 : decode cL_number 40 = .ok (.iconst 2, 1) := by decide +kernel
theorem dL_number_41 : decode cL_number 41 = .ok (.iload_n 3, 1) := by decide +kernel
theorem dL_number_42 : decode cL_number 42 = .ok (.imul, 1) := by decide +kernel
theorem dL_number_43 : decode cL_number 43 = .ok (.iadd, 1) := by decide +kernel
theorem dL_number_44 : decode cL_number 44 = .ok (.ishr, 1) := by decide +kernel
theorem dL_number_45 : decode cL_number 45 = .ok (.bipush 10, 2) := by decide +kernel
theorem dL_number_47 : decode cL_number 47 = .ok (.invokestatic 9, 3) := by decide +kernel
theorem dL_number_50 : decode cL_number 50 = .ok (.iadd, 1) := by decide +kernel
theorem dL_number_51 : decode cL_number 51 = .ok (.istore_n 2, 1) := by decide +kernel
theorem dL_number_52 : decode cL_number 52 = .ok (.iinc 3 1, 3) := by decide +kernel
theorem dL_number_55 : decode cL_number 55 = .ok (.goto (-42), 3) := by decide +kernel
theorem dL_number_58 : decode cL_number 58 = .ok (.iload_n 2, 1) := by decide +kernel
theorem dL_number_59 : decode cL_number 59 = .ok (.ifCond .ne 7, 3) := by decide +kernel
theorem dL_number_62 : decode cL_number 62 = .ok (.iconst 1, 1) := by decide +kernel
theorem dL_number_63 : decode cL_number 63 = .ok (.goto 4, 3) := by decide +kernel
theorem dL_number_66 : decode cL_number 66 = .ok (.iload_n 2, 1) := by decide +kernel
theorem dL_number_67 : decode cL_number 67 = .ok (.ireturn, 1) := by decide +kernel
theorem dL_change_0 : decode cL_change 0 = .ok (.iload_n 2, 1) := by decide +kernel
theorem dL_change_1 : decode cL_change 1 = .ok (.bipush 7, 2) := by decide +kernel
theorem dL_change_3 : decode cL_change 3 = .ok (.invokestatic 9, 3) := by decide +kernel
theorem dL_change_6 : decode cL_change 6 = .ok (.istore_n 3, 1) := by decide +kernel
theorem dL_change_7 : decode cL_change 7 = .ok (.iload_n 2, 1) := by decide +kernel
theorem dL_change_8 : decode cL_change 8 = .ok (.iconst 4, 1) := by decide +kernel
theorem dL_change_9 : decode cL_change 9 = .ok (.ishr, 1) := by decide +kernel
theorem dL_change_10 : decode cL_change 10 = .ok (.bipush 7, 2) := by decide +kernel
theorem dL_change_12 : decode cL_change 12 = .ok (.invokestatic 9, 3) := by decide +kernel
theorem dL_change_15 : decode cL_change 15 = .ok (.istore 4, 2) := by decide +kernel
theorem dL_change_17 : decode cL_change 17 = .ok (.aload_n 0, 1) := by decide +kernel
theorem dL_change_18 : decode cL_change 18 = .ok (.iload_n 3, 1) := by decide +kernel
theorem dL_change_19 : decode cL_change 19 = .ok (.iconst 0, 1) := by decide +kernel
theorem dL_change_20 : decode cL_change 20 = .ok (.invokevirtual 15, 3) := by decide +kernel
theorem dL_change_23 : decode cL_change 23 = .ok (.istore 5, 2) := by decide +kernel
theorem dL_change_25 : decode cL_change 25 = .ok (.aload_n 0, 1) := by decide +kernel
theorem dL_change_26 : decode cL_change 26 = .ok (.iload_n 3, 1) := by decide +kernel
theorem dL_change_27 : decode cL_change 27 = .ok (.iconst 2, 1) := by decide +kernel
theorem dL_change_28 : decode cL_change 28 = .ok (.invokevirtual 15, 3) := by decide +kernel
theorem dL_change_31 : decode cL_change 31 = .ok (.istore 6, 2) := by decide +kernel
theorem dL_change_33 : decode cL_change 33 = .ok (.aload_n 0, 1) := by decide +kernel
theorem dL_change_34 : decode cL_change 34 = .ok (.bipush 6, 2) := by decide +kernel
theorem dL_change_36 : decode cL_change 36 = .ok (.invokevirtual 20, 3) := by decide +kernel
theorem dL_change_39 : decode cL_change 39 = .ok (.istore 7, 2) := by decide +kernel
theorem dL_change_41 : decode cL_change 41 = .ok (.aload_n 0, 1) := by decide +kernel
theorem dL_change_42 : decode cL_change 42 = .ok (.iconst 3, 1) := by decide +kernel
theorem dL_change_43 : decode cL_change 43 = .ok (.invokevirtual 20, 3) := by decide +kernel
theorem dL_change_46 : decode cL_change 46 = .ok (.istore 8, 2) := by decide +kernel
theorem dL_change_48 : decode cL_change 48 = .ok (.iconst 0, 1) := by decide +kernel
theorem dL_change_49 : decode cL_change 49 = .ok (.istore 9, 2) := by decide +kernel
theorem dL_change_51 : decode cL_change 51 = .ok (.iload_n 1, 1) := by decide +kernel
theorem dL_change_52 : decode cL_change 52 = .ok (.bipush 16, 2) := by decide +kernel
theorem dL_change_54 : decode cL_change 54 = .ok (.invokestatic 9, 3) := by decide +kernel
theorem dL_change_57 : decode cL_change 57 = .ok (.tableswitch 620 0 14 #[75, 75, 75, 75, 75, 75, 87, 87, 239, 239, 239, 355, 355, 458, 569], 75) := by decide +kernel
theorem dL_change_132 : decode cL_change 132 = .ok (.aload_n 0, 1) := by decide +kernel
theorem dL_change_133 : decode cL_change 133 = .ok (.iload_n 3, 1) := by decide +kernel
theorem dL_change_134 : decode cL_change 134 = .ok (.iload_n 2, 1) := by decide +kernel
theorem dL_change_135 : decode cL_change 135 = .ok (.iconst 3, 1) := by decide +kernel
theorem dL_change_136 : decode cL_change 136 = .ok (.ishr, 1) := by decide +kernel
theorem dL_change_137 : decode cL_change 137 = .ok (.invokestatic 24, 3) := by decide +kernel
theorem dL_change_140 : decode cL_change 140 = .ok (.invokestatic 27, 3) := by decide +kernel
theorem dL_change_143 : decode cL_change 143 = .ok (.ireturn, 1) := by decide +kernel
theorem dL_change_144 : decode cL_change 144 = .ok (.iload_n 3, 1) := by decide +kernel
theorem dL_change_145 : decode cL_change 145 = .ok (.iload 4, 2) := by decide +kernel
theorem dL_change_147 : decode cL_change 147 = .ok (.if_icmp .ne 5, 3) := by decide +kernel
theorem dL_change_150 : decode cL_change 150 = .ok (.iconst 1, 1) := by decide +kernel
theorem dL_change_151 : decode cL_change 151 = .ok (.ireturn, 1) := by decide +kernel
theorem dL_change_152 : decode cL_change 152 = .ok (.iload 5, 2) := by decide +kernel
theorem dL_change_154 : decode cL_change 154 = .ok (.ifCond .ne 7, 3) := by decide +kernel
theorem dL_change_157 : decode cL_change 157 = .ok (.iconst 0, 1) := by decide +kernel
theorem dL_change_158 : decode cL_change 158 = .ok (.goto 11, 3) := by decide +kernel
theorem dL_change_161 : decode cL_change 161 = .ok (.aload_n 0, 1) := by decide +kernel
theorem dL_change_162 : decode cL_change 162 = .ok (.iload 4, 2) := by decide +kernel
theorem dL_change_164 : decode cL_change 164 = .ok (.iload 5, 2) := by decide +kernel
theorem dL_change_166 : decode cL_change 166 = .ok (.invokevirtual 31, 3) := by decide +kernel
theorem dL_change_169 : decode cL_change 169 = .ok (.istore 9, 2) := by decide +kernel
theorem dL_change_171 : decode cL_change 171 = .ok (.aload_n 0, 1) := by decide +kernel
theorem dL_change_172 : decode cL_change 172 = .ok (.iload 4, 2) := by decide +kernel
theorem dL_change_174 : decode cL_change 174 = .ok (.iconst 0, 1) := by decide +kernel
theorem dL_change_175 : decode cL_change 175 = .ok (.invokevirtual 15, 3) := by decide +kernel
theorem dL_change_178 : decode cL_change 178 = .ok (.istore 10, 2) := by decide +kernel
theorem dL_change_180 : decode cL_change 180 = .ok (.aload_n 0, 1) := by decide +kernel
theorem dL_change_181 : decode cL_change 181 = .ok (.iload_n 3, 1) := by decide +kernel
theorem dL_change_182 : decode cL_change 182 = .ok (.iload 4, 2) := by decide +kernel
theorem dL_change_184 : decode cL_change 184 = .ok (.invokevirtual 34, 3) := by decide +kernel
theorem dL_change_187 : decode cL_change 187 = .ok (.istore 11, 2) := by decide +kernel
theorem dL_change_189 : decode cL_change 189 = .ok (.iload 5, 2) := by decide +kernel
theorem dL_change_191 : decode cL_change 191 = .ok (.ifCond .ne 11, 3) := by decide +kernel
theorem dL_change_194 : decode cL_change 194 = .ok (.iload 11, 2) := by decide +kernel
theorem dL_change_196 : decode cL_change 196 = .ok (.ifCond .ne 98, 3) := by decide +kernel
theorem dL_change_199 : decode cL_change 199 = .ok (.goto 34, 3) := by decide +kernel
theorem dL_change_202 : decode cL_change 202 = .ok (.iload 9, 2) := by decide +kernel
theorem dL_change_204 : decode cL_change 204 = .ok (.ifCond .le 13, 3) := by decide +kernel
theorem dL_change_207 : decode cL_change 207 = .ok (.iload 11, 2) := by decide +kernel
theorem dL_change_209 : decode cL_change 209 = .ok (.iload 9, 2) := by decide +kernel
theorem dL_change_211 : decode cL_change 211 = .ok (.if_icmp .ne 83, 3) := by decide +kernel
theorem dL_change_214 : decode cL_change 214 = .ok (.goto 19, 3) := by decide +kernel
theorem dL_change_217 : decode cL_change 217 = .ok (.iload 11, 2) := by decide +kernel
theorem dL_change_219 : decode cL_change 219 = .ok (.bipush 10, 2) := by decide +kernel
theorem dL_change_221 : decode cL_change 221 = .ok (.aload_n 0, 1) := by decide +kernel
theorem dL_change_222 : decode cL_change 222 = .ok (.iconst 3, 1) := by decide +kernel
theorem dL_change_223 : decode cL_change 223 = .ok (.invokevirtual 20, 3) := by decide +kernel
theorem dL_change_226 : decode cL_change 226 = .ok (.iadd, 1) := by decide +kernel
theorem dL_change_227 : decode cL_change 227 = .ok (.iload 8, 2) := by decide +kernel
theorem dL_change_229 : decode cL_change 229 = .ok (.isub, 1) := by decide +kernel
theorem dL_change_230 : decode cL_change 230 = .ok (.if_icmp .ne 64, 3) := by decide +kernel
theorem dL_change_233 : decode cL_change 233 = .ok (.aload_n 0, 1) := by decide +kernel
theorem dL_change_234 : decode cL_change 234 = .ok (.iload_n 3, 1) := by decide +kernel
theorem dL_change_235 : decode cL_change 235 = .ok (.iconst 0, 1) := by decide +kernel
theorem dL_change_236 : decode cL_change 236 = .ok (.invokevirtual 15, 3) := by decide +kernel
theorem dL_change_239 : decode cL_change 239 = .ok (.iload 5, 2) := by decide +kernel
theorem dL_change_241 : decode cL_change 241 = .ok (.if_icmp .ne 53, 3) := by decide +kernel
theorem dL_change_244 : decode cL_change 244 = .ok (.aload_n 0, 1) := by decide +kernel
theorem dL_change_245 : decode cL_change 245 = .ok (.iload 4, 2) := by decide +kernel
theorem dL_change_247 : decode cL_change 247 = .ok (.iconst 0, 1) := by decide +kernel
theorem dL_change_248 : decode cL_change 248 = .ok (.invokevirtual 15, 3) := by decide +kernel
set_option maxRecDepth 20000 in
theorem dL_change_251 : decode cL_change 251 = .ok (.iload 10, 2) := by decide +kernel
set_option maxRecDepth 20000 in
theorem dL_change_253 : decode cL_change 253 = .ok (.iload 9, 2) := by decide +kernel
set_option maxRecDepth 20000 in
theorem dL_change_255 : decode cL_change 255 = .ok (.ifCond .le 7, 3) := by decide +kernel
set_option maxRecDepth 20000 in
theorem dL_change_258 : decode cL_change 258 = .ok (.iconst 0, 1) := by decide +kernel
set_option maxRecDepth 20000 in
theorem dL_change_259 : decode cL_change 259 = .ok (.goto 5, 3) := by decide +kernel
set_option maxRecDepth 20000 in
theorem dL_change_262 : decode cL_change 262 = .ok (.iload 5, 2) := by decide +kernel
set_option maxRecDepth 20000 in
theorem dL_change_264 : decode cL_change 264 = .ok (.iadd, 1) := by decide +kernel
set_option maxRecDepth 20000 in
theorem dL_change_265 : decode cL_change 265 = .ok (.if_icmp .ne 29, 3) := by decide +kernel
set_option maxRecDepth 20000 in
theorem dL_change_268 : decode cL_change 268 = .ok (.aload_n 0, 1) := by decide +kernel
set_option maxRecDepth 20000 in
theorem dL_change_269 : decode cL_change 269 = .ok (.bipush 6, 2) := by decide +kernel
set_option maxRecDepth 20000 in
theorem dL_change_271 : decode cL_change 271 = .ok (.invokevirtual 20, 3) := by decide +kernel
set_option maxRecDepth 20000 in
theorem dL_change_274 : decode cL_change 274 = .ok (.iload 7, 2) := by decide +kernel
set_option maxRecDepth 20000 in
theorem dL_change_276 : decode cL_change 276 = .ok (.iload 9, 2) := by decide +kernel
set_option maxRecDepth 20000 in
theorem dL_change_278 : decode cL_change 278 = .ok (.ifCond .le 7, 3) := by decide +kernel
set_option maxRecDepth 20000 in
theorem dL_change_281 : decode cL_change 281 = .ok (.iconst 1, 1) := by decide +kernel
set_option maxRecDepth 20000 in
theorem dL_change_282 : decode cL_change 282 = .ok (.goto 4, 3) := by decide +kernel
set_option maxRecDepth 20000 in
theorem dL_change_285 : decode cL_change 285 = .ok (.iconst 0, 1) := by decide +kernel
set_option maxRecDepth 20000 in
theorem dL_change_286 : decode cL_change 286 = .ok (.iadd, 1) := by decide +kernel
set_option maxRecDepth 20000 in
theorem dL_change_287 : decode cL_change 287 = .ok (.if_icmp .ne 7, 3) := by decide +kernel
set_option maxRecDepth 20000 in
theorem dL_change_290 : decode cL_change 290 = .ok (.iconst 1, 1) := by decide +kernel
set_option maxRecDepth 20000 in
theorem dL_change_291 : decode cL_change 291 = .ok (.goto 4, 3) := by decide +kernel
set_option maxRecDepth 20000 in
theorem dL_change_294 : decode cL_change 294 = .ok (.iconst 0, 1) := by decide +kernel
set_option maxRecDepth 20000 in
theorem dL_change_295 : decode cL_change 295 = .ok (.ireturn, 1) := by decide +kernel
set_option maxRecDepth 20000 in
theorem dL_change_296 : decode cL_change 296 = .ok (.iload_n 2, 1) := by decide +kernel
set_option maxRecDepth 20000 in
theorem dL_change_297 : decode cL_change 297 = .ok (.iconst 4, 1) := by decide +kernel
set_option maxRecDepth 20000 in
theorem dL_change_298 : decode cL_change 298 = .ok (.ishr, 1) := by decide +kernel
set_option maxRecDepth 20000 in
theorem dL_change_299 : decode cL_change 299 = .ok (.bipush 6, 2) := by decide +kernel
set_option maxRecDepth 20000 in
theorem dL_change_301 : decode cL_change 301 = .ok (.invokestatic 9, 3) := by decide +kernel
set_option maxRecDepth 20000 in
theorem dL_change_304 : decode cL_change 304 = .ok (.istore 12, 2) := by decide +kernel
set_option maxRecDepth 20000 in
theorem dL_change_306 : decode cL_change 306 = .ok (.aload_n 0, 1) := by decide +kernel
set_option maxRecDepth 20000 in
theorem dL_change_307 : decode cL_change 307 = .ok (.iload_n 3, 1) := by decide +kernel
set_option maxRecDepth 20000 in
theorem dL_change_308 : decode cL_change 308 = .ok (.iload 12, 2) := by decide +kernel
set_option maxRecDepth 20000 in
theorem dL_change_310 : decode cL_change 310 = .ok (.iconst 2, 1) := by decide +kernel
set_option maxRecDepth 20000 in
theorem dL_change_311 : decode cL_change 311 = .ok (.invokevirtual 37, 3) := by decide +kernel
set_option maxRecDepth 20000 in
theorem dL_change_314 : decode cL_change 314 = .ok (.istore 13, 2) := by decide +kernel
set_option maxRecDepth 20000 in
theorem dL_change_316 : decode cL_change 316 = .ok (.aload_n 0, 1) := by decide +kernel
set_option maxRecDepth 20000 in
theorem dL_change_317 : decode cL_change 317 = .ok (.iload_n 3, 1) := by decide +kernel
set_option maxRecDepth 20000 in
theorem dL_change_318 : decode cL_change 318 = .ok (.iload 12, 2) := by decide +kernel
set_option maxRecDepth 20000 in
theorem dL_change_320 : decode cL_change 320 = .ok (.iconst 0, 1) := by decide +kernel
set_option maxRecDepth 20000 in
theorem dL_change_321 : decode cL_change 321 = .ok (.invokevirtual 37, 3) := by decide +kernel
set_option maxRecDepth 20000 in
theorem dL_change_324 : decode cL_change 324 = .ok (.istore 9, 2) := by decide +kernel
set_option maxRecDepth 20000 in
theorem dL_change_326 : decode cL_change 326 = .ok (.aload_n 0, 1) := by decide +kernel
set_option maxRecDepth 20000 in
theorem dL_change_327 : decode cL_change 327 = .ok (.iload_n 3, 1) := by decide +kernel
set_option maxRecDepth 20000 in
theorem dL_change_328 : decode cL_change 328 = .ok (.iload 12, 2) := by decide +kernel
set_option maxRecDepth 20000 in
theorem dL_change_330 : decode cL_change 330 = .ok (.invokevirtual 41, 3) := by decide +kernel
set_option maxRecDepth 20000 in
theorem dL_change_333 : decode cL_change 333 = .ok (.iload 13, 2) := by decide +kernel
set_option maxRecDepth 20000 in
theorem dL_change_335 : decode cL_change 335 = .ok (.ifCond .ne 7, 3) := by decide +kernel
set_option maxRecDepth 20000 in
theorem dL_change_338 : decode cL_change 338 = .ok (.iconst (-1), 1) := by decide +kernel
set_option maxRecDepth 20000 in
theorem dL_change_339 : decode cL_change 339 = .ok (.goto 7, 3) := by decide +kernel
set_option maxRecDepth 20000 in
theorem dL_change_342 : decode cL_change 342 = .ok (.iload 13, 2) := by decide +kernel
set_option maxRecDepth 20000 in
theorem dL_change_344 : decode cL_change 344 = .ok (.iconst 1, 1) := by decide +kernel
set_option maxRecDepth 20000 in
theorem dL_change_345 : decode cL_change 345 = .ok (.isub, 1) := by decide +kernel
set_option maxRecDepth 20000 in
theorem dL_change_346 : decode cL_change 346 = .ok (.if_icmp .ne 64, 3) := by decide +kernel
set_option maxRecDepth 20000 in
theorem dL_change_349 : decode cL_change 349 = .ok (.aload_n 0, 1) := by decide +kernel
set_option maxRecDepth 20000 in
theorem dL_change_350 : decode cL_change 350 = .ok (.iload_n 3, 1) := by decide +kernel
set_option maxRecDepth 20000 in
theorem dL_change_351 : decode cL_change 351 = .ok (.iload 12, 2) := by decide +kernel
set_option maxRecDepth 20000 in
theorem dL_change_353 : decode cL_change 353 = .ok (.iconst 0, 1) := by decide +kernel
set_option maxRecDepth 20000 in
theorem dL_change_354 : decode cL_change 354 = .ok (.invokevirtual 37, 3) := by decide +kernel
set_option maxRecDepth 20000 in
theorem dL_change_357 : decode cL_change 357 = .ok (.iload 9, 2) := by decide +kernel
set_option maxRecDepth 20000 in
theorem dL_change_359 : decode cL_change 359 = .ok (.iload 13, 2) := by decide +kernel
set_option maxRecDepth 20000 in
theorem dL_change_361 : decode cL_change 361 = .ok (.ifCond .ne 7, 3) := by decide +kernel
set_option maxRecDepth 20000 in
theorem dL_change_364 : decode cL_change 364 = .ok (.iconst 0, 1) := by decide +kernel
set_option maxRecDepth 20000 in
theorem dL_change_365 : decode cL_change 365 = .ok (.goto 4, 3) := by decide +kernel
set_option maxRecDepth 20000 in
theorem dL_change_368 : decode cL_change 368 = .ok (.iconst 1, 1) := by decide +kernel
set_option maxRecDepth 20000 in
theorem dL_change_369 : decode cL_change 369 = .ok (.isub, 1) := by decide +kernel
set_option maxRecDepth 20000 in
theorem dL_change_370 : decode cL_change 370 = .ok (.if_icmp .ne 40, 3) := by decide +kernel
set_option maxRecDepth 20000 in
theorem dL_change_373 : decode cL_change 373 = .ok (.aload_n 0, 1) := by decide +kernel
set_option maxRecDepth 20000 in
theorem dL_change_374 : decode cL_change 374 = .ok (.bipush 6, 2) := by decide +kernel
set_option maxRecDepth 20000 in
theorem dL_change_376 : decode cL_change 376 = .ok (.invokevirtual 20, 3) := by decide +kernel
set_option maxRecDepth 20000 in
theorem dL_change_379 : decode cL_change 379 = .ok (.iload 7, 2) := by decide +kernel
set_option maxRecDepth 20000 in
theorem dL_change_381 : decode cL_change 381 = .ok (.iload 13, 2) := by decide +kernel
set_option maxRecDepth 20000 in
theorem dL_change_383 : decode cL_change 383 = .ok (.ifCond .ne 7, 3) := by decide +kernel
set_option maxRecDepth 20000 in
theorem dL_change_386 : decode cL_change 386 = .ok (.iconst 1, 1) := by decide +kernel
set_option maxRecDepth 20000 in
theorem dL_change_387 : decode cL_change 387 = .ok (.goto 4, 3) := by decide +kernel
set_option maxRecDepth 20000 in
theorem dL_change_390 : decode cL_change 390 = .ok (.iconst 0, 1) := by decide +kernel
set_option maxRecDepth 20000 in
theorem dL_change_391 : decode cL_change 391 = .ok (.iadd, 1) := by decide +kernel
set_option maxRecDepth 20000 in
theorem dL_change_392 : decode cL_change 392 = .ok (.if_icmp .ne 18, 3) := by decide +kernel
set_option maxRecDepth 20000 in
theorem dL_change_395 : decode cL_change 395 = .ok (.aload_n 0, 1) := by decide +kernel
set_option maxRecDepth 20000 in
theorem dL_change_396 : decode cL_change 396 = .ok (.iload_n 3, 1) := by decide +kernel
set_option maxRecDepth 20000 in
theorem dL_change_397 : decode cL_change 397 = .ok (.iconst 2, 1) := by decide +kernel
set_option maxRecDepth 20000 in
theorem dL_change_398 : decode cL_change 398 = .ok (.invokevirtual 15, 3) := by decide +kernel
set_option maxRecDepth 20000 in
theorem dL_change_401 : decode cL_change 401 = .ok (.iload 6, 2) := by decide +kernel
set_option maxRecDepth 20000 in
theorem dL_change_403 : decode cL_change 403 = .ok (.if_icmp .ne 7, 3) := by decide +kernel
set_option maxRecDepth 20000 in
theorem dL_change_406 : decode cL_change 406 = .ok (.iconst 1, 1) := by decide +kernel
set_option maxRecDepth 20000 in
theorem dL_change_407 : decode cL_change 407 = .ok (.goto 4, 3) := by decide +kernel
set_option maxRecDepth 20000 in
theorem dL_change_410 : decode cL_change 410 = .ok (.iconst 0, 1) := by decide +kernel
set_option maxRecDepth 20000 in
theorem dL_change_411 : decode cL_change 411 = .ok (.ireturn, 1) := by decide +kernel
set_option maxRecDepth 20000 in
theorem dL_change_412 : decode cL_change 412 = .ok (.aload_n 0, 1) := by decide +kernel
set_option maxRecDepth 20000 in
theorem dL_change_413 : decode cL_change 413 = .ok (.iload_n 3, 1) := by decide +kernel
set_option maxRecDepth 20000 in
theorem dL_change_414 : decode cL_change 414 = .ok (.iconst 3, 1) := by decide +kernel
set_option maxRecDepth 20000 in
theorem dL_change_415 : decode cL_change 415 = .ok (.invokevirtual 15, 3) := by decide +kernel
set_option maxRecDepth 20000 in
theorem dL_change_418 : decode cL_change 418 = .ok (.istore 14, 2) := by decide +kernel
set_option maxRecDepth 20000 in
theorem dL_change_420 : decode cL_change 420 = .ok (.aload_n 0, 1) := by decide +kernel
set_option maxRecDepth 20000 in
theorem dL_change_421 : decode cL_change 421 = .ok (.iload_n 3, 1) := by decide +kernel
set_option maxRecDepth 20000 in
theorem dL_change_422 : decode cL_change 422 = .ok (.invokevirtual 44, 3) := by decide +kernel
set_option maxRecDepth 20000 in
theorem dL_change_425 : decode cL_change 425 = .ok (.istore 9, 2) := by decide +kernel
set_option maxRecDepth 20000 in
theorem dL_change_427 : decode cL_change 427 = .ok (.iload 9, 2) := by decide +kernel
set_option maxRecDepth 20000 in
theorem dL_change_429 : decode cL_change 429 = .ok (.iload 14, 2) := by decide +kernel
set_option maxRecDepth 20000 in
theorem dL_change_431 : decode cL_change 431 = .ok (.if_icmp .ne 30, 3) := by decide +kernel
set_option maxRecDepth 20000 in
theorem dL_change_434 : decode cL_change 434 = .ok (.aload_n 0, 1) := by decide +kernel
set_option maxRecDepth 20000 in
theorem dL_change_435 : decode cL_change 435 = .ok (.iload_n 3, 1) := by decide +kernel
set_option maxRecDepth 20000 in
theorem dL_change_436 : decode cL_change 436 = .ok (.iconst 3, 1) := by decide +kernel
set_option maxRecDepth 20000 in
theorem dL_change_437 : decode cL_change 437 = .ok (.invokevirtual 15, 3) := by decide +kernel
set_option maxRecDepth 20000 in
theorem dL_change_440 : decode cL_change 440 = .ok (.ifCond .ne 73, 3) := by decide +kernel
set_option maxRecDepth 20000 in
theorem dL_change_443 : decode cL_change 443 = .ok (.aload_n 0, 1) := by decide +kernel
set_option maxRecDepth 20000 in
theorem dL_change_444 : decode cL_change 444 = .ok (.iload_n 3, 1) := by decide +kernel
set_option maxRecDepth 20000 in
theorem dL_change_445 : decode cL_change 445 = .ok (.iconst 0, 1) := by decide +kernel
set_option maxRecDepth 20000 in
theorem dL_change_446 : decode cL_change 446 = .ok (.invokevirtual 15, 3) := by decide +kernel
set_option maxRecDepth 20000 in
theorem dL_change_449 : decode cL_change 449 = .ok (.aload_n 0, 1) := by decide +kernel
set_option maxRecDepth 20000 in
theorem dL_change_450 : decode cL_change 450 = .ok (.iload_n 3, 1) := by decide +kernel
set_option maxRecDepth 20000 in
theorem dL_change_451 : decode cL_change 451 = .ok (.iconst 1, 1) := by decide +kernel
set_option maxRecDepth 20000 in
theorem dL_change_452 : decode cL_change 452 = .ok (.invokevirtual 15, 3) := by decide +kernel
set_option maxRecDepth 20000 in
theorem dL_change_455 : decode cL_change 455 = .ok (.if_icmp .ne 58, 3) := by decide +kernel
set_option maxRecDepth 20000 in
theorem dL_change_458 : decode cL_change 458 = .ok (.goto 40, 3) := by decide +kernel
set_option maxRecDepth 20000 in
theorem dL_change_461 : decode cL_change 461 = .ok (.iload 9, 2) := by decide +kernel
set_option maxRecDepth 20000 in
theorem dL_change_463 : decode cL_change 463 = .ok (.iconst (-1), 1) := by decide +kernel
set_option maxRecDepth 20000 in
theorem dL_change_464 : decode cL_change 464 = .ok (.if_icmp .eq 10, 3) := by decide +kernel
set_option maxRecDepth 20000 in
theorem dL_change_467 : decode cL_change 467 = .ok (.iload 9, 2) := by decide +kernel
set_option maxRecDepth 20000 in
theorem dL_change_469 : decode cL_change 469 = .ok (.bipush (-2), 2) := by decide +kernel
set_option maxRecDepth 20000 in
theorem dL_change_471 : decode cL_change 471 = .ok (.if_icmp .ne 42, 3) := by decide +kernel
set_option maxRecDepth 20000 in
theorem dL_change_474 : decode cL_change 474 = .ok (.aload_n 0, 1) := by decide +kernel
set_option maxRecDepth 20000 in
theorem dL_change_475 : decode cL_change 475 = .ok (.iload_n 3, 1) := by decide +kernel
set_option maxRecDepth 20000 in
theorem dL_change_476 : decode cL_change 476 = .ok (.iconst 3, 1) := by decide +kernel
set_option maxRecDepth 20000 in
theorem dL_change_477 : decode cL_change 477 = .ok (.invokevirtual 15, 3) := by decide +kernel
set_option maxRecDepth 20000 in
theorem dL_change_480 : decode cL_change 480 = .ok (.iload 14, 2) := by decide +kernel
set_option maxRecDepth 20000 in
theorem dL_change_482 : decode cL_change 482 = .ok (.if_icmp .ne 31, 3) := by decide +kernel
set_option maxRecDepth 20000 in
theorem dL_change_485 : decode cL_change 485 = .ok (.aload_n 0, 1) := by decide +kernel
set_option maxRecDepth 20000 in
theorem dL_change_486 : decode cL_change 486 = .ok (.bipush 6, 2) := by decide +kernel
set_option maxRecDepth 20000 in
theorem dL_change_488 : decode cL_change 488 = .ok (.invokevirtual 20, 3) := by decide +kernel
set_option maxRecDepth 20000 in
theorem dL_change_491 : decode cL_change 491 = .ok (.iload 7, 2) := by decide +kernel
set_option maxRecDepth 20000 in
theorem dL_change_493 : decode cL_change 493 = .ok (.iconst 1, 1) := by decide +kernel
set_option maxRecDepth 20000 in
theorem dL_change_494 : decode cL_change 494 = .ok (.iadd, 1) := by decide +kernel
set_option maxRecDepth 20000 in
theorem dL_change_495 : decode cL_change 495 = .ok (.if_icmp .ne 18, 3) := by decide +kernel
set_option maxRecDepth 20000 in
theorem dL_change_498 : decode cL_change 498 = .ok (.aload_n 0, 1) := by decide +kernel
set_option maxRecDepth 20000 in
theorem dL_change_499 : decode cL_change 499 = .ok (.iload_n 3, 1) := by decide +kernel
set_option maxRecDepth 20000 in
theorem dL_change_500 : decode cL_change 500 = .ok (.iconst 2, 1) := by decide +kernel
set_option maxRecDepth 20000 in
theorem dL_change_501 : decode cL_change 501 = .ok (.invokevirtual 15, 3) := by decide +kernel
set_option maxRecDepth 20000 in
theorem dL_change_504 : decode cL_change 504 = .ok (.iload 6, 2) := by decide +kernel
set_option maxRecDepth 20000 in
theorem dL_change_506 : decode cL_change 506 = .ok (.if_icmp .ne 7, 3) := by decide +kernel
set_option maxRecDepth 20000 in
theorem dL_change_509 : decode cL_change 509 = .ok (.iconst 1, 1) := by decide +kernel
set_option maxRecDepth 20000 in
theorem dL_change_510 : decode cL_change 510 = .ok (.goto 4, 3) := by decide +kernel
set_option maxRecDepth 20000 in
theorem dL_change_513 : decode cL_change 513 = .ok (.iconst 0, 1) := by decide +kernel
set_option maxRecDepth 20000 in
theorem dL_change_514 : decode cL_change 514 = .ok (.ireturn, 1) := by decide +kernel
set_option maxRecDepth 20000 in
theorem dL_change_515 : decode cL_change 515 = .ok (.aload_n 0, 1) := by decide +kernel
set_option maxRecDepth 20000 in
theorem dL_change_516 : decode cL_change 516 = .ok (.iload_n 3, 1) := by decide +kernel
set_option maxRecDepth 20000 in
theorem dL_change_517 : decode cL_change 517 = .ok (.iconst 4, 1) := by decide +kernel
set_option maxRecDepth 20000 in
theorem dL_change_518 : decode cL_change 518 = .ok (.invokevirtual 15, 3) := by decide +kernel
set_option maxRecDepth 20000 in
theorem dL_change_521 : decode cL_change 521 = .ok (.istore 15, 2) := by decide +kernel
set_option maxRecDepth 20000 in
theorem dL_change_523 : decode cL_change 523 = .ok (.aload_n 0, 1) := by decide +kernel
set_option maxRecDepth 20000 in
theorem dL_change_524 : decode cL_change 524 = .ok (.iconst 5, 1) := by decide +kernel
set_option maxRecDepth 20000 in
theorem dL_change_525 : decode cL_change 525 = .ok (.invokevirtual 20, 3) := by decide +kernel
set_option maxRecDepth 20000 in
theorem dL_change_528 : decode cL_change 528 = .ok (.istore 16, 2) := by decide +kernel
set_option maxRecDepth 20000 in
theorem dL_change_530 : decode cL_change 530 = .ok (.aload_n 0, 1) := by decide +kernel
set_option maxRecDepth 20000 in
theorem dL_change_531 : decode cL_change 531 = .ok (.iload_n 3, 1) := by decide +kernel
set_option maxRecDepth 20000 in
theorem dL_change_532 : decode cL_change 532 = .ok (.bipush 6, 2) := by decide +kernel
set_option maxRecDepth 20000 in
theorem dL_change_534 : decode cL_change 534 = .ok (.invokevirtual 15, 3) := by decide +kernel
set_option maxRecDepth 20000 in
theorem dL_change_537 : decode cL_change 537 = .ok (.istore 17, 2) := by decide +kernel
set_option maxRecDepth 20000 in
theorem dL_change_539 : decode cL_change 539 = .ok (.iload_n 2, 1) := by decide +kernel
set_option maxRecDepth 20000 in
theorem dL_change_540 : decode cL_change 540 = .ok (.bipush 8, 2) := by decide +kernel
set_option maxRecDepth 20000 in
theorem dL_change_542 : decode cL_change 542 = .ok (.ishr, 1) := by decide +kernel
set_option maxRecDepth 20000 in
theorem dL_change_543 : decode cL_change 543 = .ok (.iconst 3, 1) := by decide +kernel
set_option maxRecDepth 20000 in
theorem dL_change_544 : decode cL_change 544 = .ok (.iand, 1) := by decide +kernel
set_option maxRecDepth 20000 in
theorem dL_change_545 : decode cL_change 545 = .ok (.ifCond .ne 75, 3) := by decide +kernel
set_option maxRecDepth 20000 in
theorem dL_change_548 : decode cL_change 548 = .ok (.aload_n 0, 1) := by decide +kernel
set_option maxRecDepth 20000 in
theorem dL_change_549 : decode cL_change 549 = .ok (.iload_n 3, 1) := by decide +kernel
set_option maxRecDepth 20000 in
theorem dL_change_550 : decode cL_change 550 = .ok (.invokevirtual 47, 3) := by decide +kernel
set_option maxRecDepth 20000 in
theorem dL_change_553 : decode cL_change 553 = .ok (.iload 5, 2) := by decide +kernel
set_option maxRecDepth 20000 in
theorem dL_change_555 : decode cL_change 555 = .ok (.if_icmp .ne 69, 3) := by decide +kernel
set_option maxRecDepth 20000 in
theorem dL_change_558 : decode cL_change 558 = .ok (.aload_n 0, 1) := by decide +kernel
set_option maxRecDepth 20000 in
theorem dL_change_559 : decode cL_change 559 = .ok (.iload_n 3, 1) := by decide +kernel
set_option maxRecDepth 20000 in
theorem dL_change_560 : decode cL_change 560 = .ok (.iconst 0, 1) := by decide +kernel
set_option maxRecDepth 20000 in
theorem dL_change_561 : decode cL_change 561 = .ok (.invokevirtual 15, 3) := by decide +kernel
set_option maxRecDepth 20000 in
theorem dL_change_564 : decode cL_change 564 = .ok (.ifCond .ne 60, 3) := by decide +kernel
set_option maxRecDepth 20000 in
theorem dL_change_567 : decode cL_change 567 = .ok (.aload_n 0, 1) := by decide +kernel
set_option maxRecDepth 20000 in
theorem dL_change_568 : decode cL_change 568 = .ok (.iload_n 3, 1) := by decide +kernel
set_option maxRecDepth 20000 in
theorem dL_change_569 : decode cL_change 569 = .ok (.iconst 2, 1) := by decide +kernel
set_option maxRecDepth 20000 in
theorem dL_change_570 : decode cL_change 570 = .ok (.invokevirtual 15, 3) := by decide +kernel
set_option maxRecDepth 20000 in
theorem dL_change_573 : decode cL_change 573 = .ok (.ifCond .ne 51, 3) := by decide +kernel
set_option maxRecDepth 20000 in
theorem dL_change_576 : decode cL_change 576 = .ok (.aload_n 0, 1) := by decide +kernel
set_option maxRecDepth 20000 in
theorem dL_change_577 : decode cL_change 577 = .ok (.iload_n 3, 1) := by decide +kernel
set_option maxRecDepth 20000 in
theorem dL_change_578 : decode cL_change 578 = .ok (.iconst 4, 1) := by decide +kernel
set_option maxRecDepth 20000 in
theorem dL_change_579 : decode cL_change 579 = .ok (.invokevirtual 15, 3) := by decide +kernel
set_option maxRecDepth 20000 in
theorem dL_change_582 : decode cL_change 582 = .ok (.ifCond .ne 42, 3) := by decide +kernel
set_option maxRecDepth 20000 in
theorem dL_change_585 : decode cL_change 585 = .ok (.aload_n 0, 1) := by decide +kernel
set_option maxRecDepth 20000 in
theorem dL_change_586 : decode cL_change 586 = .ok (.iconst 5, 1) := by decide +kernel
set_option maxRecDepth 20000 in
theorem dL_change_587 : decode cL_change 587 = .ok (.invokevirtual 20, 3) := by decide +kernel
set_option maxRecDepth 20000 in
theorem dL_change_590 : decode cL_change 590 = .ok (.iload 16, 2) := by decide +kernel
set_option maxRecDepth 20000 in
theorem dL_change_592 : decode cL_change 592 = .ok (.iload 15, 2) := by decide +kernel
set_option maxRecDepth 20000 in
theorem dL_change_594 : decode cL_change 594 = .ok (.iadd, 1) := by decide +kernel
set_option maxRecDepth 20000 in
theorem dL_change_595 : decode cL_change 595 = .ok (.if_icmp .ne 29, 3) := by decide +kernel
set_option maxRecDepth 20000 in
theorem dL_change_598 : decode cL_change 598 = .ok (.aload_n 0, 1) := by decide +kernel
set_option maxRecDepth 20000 in
theorem dL_change_599 : decode cL_change 599 = .ok (.iload_n 3, 1) := by decide +kernel
set_option maxRecDepth 20000 in
theorem dL_change_600 : decode cL_change 600 = .ok (.bipush 6, 2) := by decide +kernel
set_option maxRecDepth 20000 in
theorem dL_change_602 : decode cL_change 602 = .ok (.invokevirtual 15, 3) := by decide +kernel
set_option maxRecDepth 20000 in
theorem dL_change_605 : decode cL_change 605 = .ok (.iload 17, 2) := by decide +kernel
set_option maxRecDepth 20000 in
theorem dL_change_607 : decode cL_change 607 = .ok (.if_icmp .ne 17, 3) := by decide +kernel
set_option maxRecDepth 20000 in
theorem dL_change_610 : decode cL_change 610 = .ok (.aload_n 0, 1) := by decide +kernel
set_option maxRecDepth 20000 in
theorem dL_change_611 : decode cL_change 611 = .ok (.iload_n 3, 1) := by decide +kernel
set_option maxRecDepth 20000 in
theorem dL_change_612 : decode cL_change 612 = .ok (.bipush 7, 2) := by decide +kernel
set_option maxRecDepth 20000 in
theorem dL_change_614 : decode cL_change 614 = .ok (.invokevirtual 15, 3) := by decide +kernel
set_option maxRecDepth 20000 in
theorem dL_change_617 : decode cL_change 617 = .ok (.ifCond .ne 7, 3) := by decide +kernel
set_option maxRecDepth 20000 in
theorem dL_change_620 : decode cL_change 620 = .ok (.iconst 1, 1) := by decide +kernel
set_option maxRecDepth 20000 in
theorem dL_change_621 : decode cL_change 621 = .ok (.goto 4, 3) := by decide +kernel
set_option maxRecDepth 20000 in
theorem dL_change_624 : decode cL_change 624 = .ok (.iconst 0, 1) := by decide +kernel
set_option maxRecDepth 20000 in
theorem dL_change_625 : decode cL_change 625 = .ok (.ireturn, 1) := by decide +kernel
set_option maxRecDepth 20000 in
theorem dL_change_626 : decode cL_change 626 = .ok (.aload_n 0, 1) := by decide +kernel
set_option maxRecDepth 20000 in
theorem dL_change_627 : decode cL_change 627 = .ok (.iload_n 3, 1) := by decide +kernel
set_option maxRecDepth 20000 in
theorem dL_change_628 : decode cL_change 628 = .ok (.bipush 6, 2) := by decide +kernel
set_option maxRecDepth 20000 in
theorem dL_change_630 : decode cL_change 630 = .ok (.invokevirtual 15, 3) := by decide +kernel
set_option maxRecDepth 20000 in
theorem dL_change_633 : decode cL_change 633 = .ok (.istore 9, 2) := by decide +kernel
set_option maxRecDepth 20000 in
theorem dL_change_635 : decode cL_change 635 = .ok (.aload_n 0, 1) := by decide +kernel
set_option maxRecDepth 20000 in
theorem dL_change_636 : decode cL_change 636 = .ok (.iload_n 3, 1) := by decide +kernel
set_option maxRecDepth 20000 in
theorem dL_change_637 : decode cL_change 637 = .ok (.iload_n 2, 1) := by decide +kernel
set_option maxRecDepth 20000 in
theorem dL_change_638 : decode cL_change 638 = .ok (.iconst 4, 1) := by decide +kernel
set_option maxRecDepth 20000 in
theorem dL_change_639 : decode cL_change 639 = .ok (.ishr, 1) := by decide +kernel
set_option maxRecDepth 20000 in
theorem dL_change_640 : decode cL_change 640 = .ok (.bipush 6, 2) := by decide +kernel
set_option maxRecDepth 20000 in
theorem dL_change_642 : decode cL_change 642 = .ok (.invokestatic 9, 3) := by decide +kernel
set_option maxRecDepth 20000 in
theorem dL_change_645 : decode cL_change 645 = .ok (.invokevirtual 50, 3) := by decide +kernel
set_option maxRecDepth 20000 in
theorem dL_change_648 : decode cL_change 648 = .ok (.iload 9, 2) := by decide +kernel
set_option maxRecDepth 20000 in
theorem dL_change_650 : decode cL_change 650 = .ok (.if_icmp .ne 25, 3) := by decide +kernel
set_option maxRecDepth 20000 in
theorem dL_change_653 : decode cL_change 653 = .ok (.aload_n 0, 1) := by decide +kernel
set_option maxRecDepth 20000 in
theorem dL_change_654 : decode cL_change 654 = .ok (.iload_n 3, 1) := by decide +kernel
set_option maxRecDepth 20000 in
theorem dL_change_655 : decode cL_change 655 = .ok (.bipush 6, 2) := by decide +kernel
set_option maxRecDepth 20000 in
theorem dL_change_657 : decode cL_change 657 = .ok (.invokevirtual 15, 3) := by decide +kernel
set_option maxRecDepth 20000 in
theorem dL_change_660 : decode cL_change 660 = .ok (.iload_n 2, 1) := by decide +kernel
set_option maxRecDepth 20000 in
theorem dL_change_661 : decode cL_change 661 = .ok (.iconst 4, 1) := by decide +kernel
set_option maxRecDepth 20000 in
theorem dL_change_662 : decode cL_change 662 = .ok (.ishr, 1) := by decide +kernel
set_option maxRecDepth 20000 in
theorem dL_change_663 : decode cL_change 663 = .ok (.bipush 6, 2) := by decide +kernel
set_option maxRecDepth 20000 in
theorem dL_change_665 : decode cL_change 665 = .ok (.invokestatic 9, 3) := by decide +kernel
set_option maxRecDepth 20000 in
theorem dL_change_668 : decode cL_change 668 = .ok (.if_icmp .ne 7, 3) := by decide +kernel
set_option maxRecDepth 20000 in
theorem dL_change_671 : decode cL_change 671 = .ok (.iconst 1, 1) := by decide +kernel
set_option maxRecDepth 20000 in
theorem dL_change_672 : decode cL_change 672 = .ok (.goto 4, 3) := by decide +kernel
set_option maxRecDepth 20000 in
theorem dL_change_675 : decode cL_change 675 = .ok (.iconst 0, 1) := by decide +kernel
set_option maxRecDepth 20000 in
theorem dL_change_676 : decode cL_change 676 = .ok (.ireturn, 1) := by decide +kernel
set_option maxRecDepth 20000 in
theorem dL_change_677 : decode cL_change 677 = .ok (.aload_n 0, 1) := by decide +kernel
set_option maxRecDepth 20000 in
theorem dL_change_678 : decode cL_change 678 = .ok (.bipush 8, 2) := by decide +kernel
set_option maxRecDepth 20000 in
theorem dL_change_680 : decode cL_change 680 = .ok (.invokevirtual 20, 3) := by decide +kernel
set_option maxRecDepth 20000 in
theorem dL_change_683 : decode cL_change 683 = .ok (.istore 9, 2) := by decide +kernel
set_option maxRecDepth 20000 in
theorem dL_change_685 : decode cL_change 685 = .ok (.aload_n 0, 1) := by decide +kernel
set_option maxRecDepth 20000 in
theorem dL_change_686 : decode cL_change 686 = .ok (.bipush 20, 2) := by decide +kernel
set_option maxRecDepth 20000 in
theorem dL_change_688 : decode cL_change 688 = .ok (.iload_n 2, 1) := by decide +kernel
set_option maxRecDepth 20000 in
theorem dL_change_689 : decode cL_change 689 = .ok (.bipush 40, 2) := by decide +kernel
set_option maxRecDepth 20000 in
theorem dL_change_691 : decode cL_change 691 = .ok (.invokestatic 9, 3) := by decide +kernel
set_option maxRecDepth 20000 in
theorem dL_change_694 : decode cL_change 694 = .ok (.iadd, 1) := by decide +kernel
set_option maxRecDepth 20000 in
theorem dL_change_695 : decode cL_change 695 = .ok (.invokevirtual 53, 3) := by decide +kernel
set_option maxRecDepth 20000 in
theorem dL_change_698 : decode cL_change 698 = .ok (.iload 9, 2) := by decide +kernel
set_option maxRecDepth 20000 in
theorem dL_change_700 : decode cL_change 700 = .ok (.if_icmp .ne 25, 3) := by decide +kernel
set_option maxRecDepth 20000 in
theorem dL_change_703 : decode cL_change 703 = .ok (.aload_n 0, 1) := by decide +kernel
set_option maxRecDepth 20000 in
theorem dL_change_704 : decode cL_change 704 = .ok (.bipush 8, 2) := by decide +kernel
set_option maxRecDepth 20000 in
theorem dL_change_706 : decode cL_change 706 = .ok (.invokevirtual 20, 3) := by decide +kernel
set_option maxRecDepth 20000 in
theorem dL_change_709 : decode cL_change 709 = .ok (.bipush 20, 2) := by decide +kernel
set_option maxRecDepth 20000 in
theorem dL_change_711 : decode cL_change 711 = .ok (.iload_n 2, 1) := by decide +kernel
set_option maxRecDepth 20000 in
theorem dL_change_712 : decode cL_change 712 = .ok (.bipush 40, 2) := by decide +kernel
set_option maxRecDepth 20000 in
theorem dL_change_714 : decode cL_change 714 = .ok (.invokestatic 9, 3) := by decide +kernel
set_option maxRecDepth 20000 in
theorem dL_change_717 : decode cL_change 717 = .ok (.iadd, 1) := by decide +kernel
set_option maxRecDepth 20000 in
theorem dL_change_718 : decode cL_change 718 = .ok (.if_icmp .ne 7, 3) := by decide +kernel
set_option maxRecDepth 20000 in
theorem dL_change_721 : decode cL_change 721 = .ok (.iconst 1, 1) := by decide +kernel
set_option maxRecDepth 20000 in
theorem dL_change_722 : decode cL_change 722 = .ok (.goto 4, 3) := by decide +kernel
set_option maxRecDepth 20000 in
theorem dL_change_725 : decode cL_change 725 = .ok (.iconst 0, 1) := by decide +kernel
set_option maxRecDepth 20000 in
theorem dL_change_726 : decode cL_change 726 = .ok (.ireturn, 1) := by decide +kernel
theorem dL_ties_0 : decode cL_ties 0 = .ok (.aload_n 0, 1) := by decide +kernel
theorem dL_ties_1 : decode cL_ties 1 = .ok (.iload_n 1, 1) := by decide +kernel
theorem dL_ties_2 : decode cL_ties 2 = .ok (.iconst 0, 1) := by decide +kernel
theorem dL_ties_3 : decode cL_ties 3 = .ok (.invokevirtual 15, 3) := by decide +kernel
theorem dL_ties_6 : decode cL_ties 6 = .ok (.istore_n 3, 1) := by decide +kernel
theorem dL_ties_7 : decode cL_ties 7 = .ok (.aload_n 0, 1) := by decide +kernel
theorem dL_ties_8 : decode cL_ties 8 = .ok (.iload_n 1, 1) := by decide +kernel
theorem dL_ties_9 : decode cL_ties 9 = .ok (.iconst 2, 1) := by decide +kernel
theorem dL_ties_10 : decode cL_ties 10 = .ok (.invokevirtual 15, 3) := by decide +kernel
theorem dL_ties_13 : decode cL_ties 13 = .ok (.istore 4, 2) := by decide +kernel
theorem dL_ties_15 : decode cL_ties 15 = .ok (.aload_n 0, 1) := by decide +kernel
theorem dL_ties_16 : decode cL_ties 16 = .ok (.iload_n 1, 1) := by decide +kernel
theorem dL_ties_17 : decode cL_ties 17 = .ok (.iconst 4, 1) := by decide +kernel
theorem dL_ties_18 : decode cL_ties 18 = .ok (.invokevirtual 15, 3) := by decide +kernel
theorem dL_ties_21 : decode cL_ties 21 = .ok (.istore 5, 2) := by decide +kernel
theorem dL_ties_23 : decode cL_ties 23 = .ok (.aload_n 0, 1) := by decide +kernel
theorem dL_ties_24 : decode cL_ties 24 = .ok (.bipush 6, 2) := by decide +kernel
theorem dL_ties_26 : decode cL_ties 26 = .ok (.invokevirtual 20, 3) := by decide +kernel
theorem dL_ties_29 : decode cL_ties 29 = .ok (.istore 6, 2) := by decide +kernel
theorem dL_ties_31 : decode cL_ties 31 = .ok (.aload_n 0, 1) := by decide +kernel
theorem dL_ties_32 : decode cL_ties 32 = .ok (.iconst 2, 1) := by decide +kernel
theorem dL_ties_33 : decode cL_ties 33 = .ok (.invokevirtual 20, 3) := by decide +kernel
theorem dL_ties_36 : decode cL_ties 36 = .ok (.istore 7, 2) := by decide +kernel
theorem dL_ties_38 : decode cL_ties 38 = .ok (.aload_n 0, 1) := by decide +kernel
theorem dL_ties_39 : decode cL_ties 39 = .ok (.iconst 3, 1) := by decide +kernel
theorem dL_ties_40 : decode cL_ties 40 = .ok (.invokevirtual 20, 3) := by decide +kernel
theorem dL_ties_43 : decode cL_ties 43 = .ok (.istore 8, 2) := by decide +kernel
theorem dL_ties_45 : decode cL_ties 45 = .ok (.aload_n 0, 1) := by decide +kernel
theorem dL_ties_46 : decode cL_ties 46 = .ok (.iload_n 1, 1) := by decide +kernel
theorem dL_ties_47 : decode cL_ties 47 = .ok (.iload_n 2, 1) := by decide +kernel
theorem dL_ties_48 : decode cL_ties 48 = .ok (.invokevirtual 31, 3) := by decide +kernel
theorem dL_ties_51 : decode cL_ties 51 = .ok (.istore 9, 2) := by decide +kernel
theorem dL_ties_53 : decode cL_ties 53 = .ok (.aload_n 0, 1) := by decide +kernel
theorem dL_ties_54 : decode cL_ties 54 = .ok (.iload_n 1, 1) := by decide +kernel
theorem dL_ties_55 : decode cL_ties 55 = .ok (.iload_n 2, 1) := by decide +kernel
theorem dL_ties_56 : decode cL_ties 56 = .ok (.invokevirtual 56, 3) := by decide +kernel
theorem dL_ties_59 : decode cL_ties 59 = .ok (.istore 10, 2) := by decide +kernel
theorem dL_ties_61 : decode cL_ties 61 = .ok (.iconst 0, 1) := by decide +kernel
theorem dL_ties_62 : decode cL_ties 62 = .ok (.istore 11, 2) := by decide +kernel
theorem dL_ties_64 : decode cL_ties 64 = .ok (.iload_n 2, 1) := by decide +kernel
theorem dL_ties_65 : decode cL_ties 65 = .ok (.istore 12, 2) := by decide +kernel
theorem dL_ties_67 : decode cL_ties 67 = .ok (.iload 12, 2) := by decide +kernel
theorem dL_ties_69 : decode cL_ties 69 = .ok (.ifCond .le 23, 3) := by decide +kernel
theorem dL_ties_72 : decode cL_ties 72 = .ok (.iload 11, 2) := by decide +kernel
theorem dL_ties_74 : decode cL_ties 74 = .ok (.iload 12, 2) := by decide +kernel
theorem dL_ties_76 : decode cL_ties 76 = .ok (.bipush 10, 2) := by decide +kernel
theorem dL_ties_78 : decode cL_ties 78 = .ok (.irem, 1) := by decide +kernel
theorem dL_ties_79 : decode cL_ties 79 = .ok (.iadd, 1) := by decide +kernel
theorem dL_ties_80 : decode cL_ties 80 = .ok (.istore 11, 2) := by decide +kernel
theorem dL_ties_82 : decode cL_ties 82 = .ok (.iload 12, 2) := by decide +kernel
theorem dL_ties_84 : decode cL_ties 84 = .ok (.bipush 10, 2) := by decide +kernel
theorem dL_ties_86 : decode cL_ties 86 = .ok (.idiv, 1) := by decide +kernel
theorem dL_ties_87 : decode cL_ties 87 = .ok (.istore 12, 2) := by decide +kernel
theorem dL_ties_89 : decode cL_ties 89 = .ok (.goto (-22), 3) := by decide +kernel
theorem dL_ties_92 : decode cL_ties 92 = .ok (.iload 9, 2) := by decide +kernel
theorem dL_ties_94 : decode cL_ties 94 = .ok (.iconst 3, 1) := by decide +kernel
theorem dL_ties_95 : decode cL_ties 95 = .ok (.if_icmp .ne 18, 3) := by decide +kernel
theorem dL_ties_98 : decode cL_ties 98 = .ok (.iload 4, 2) := by decide +kernel
theorem dL_ties_100 : decode cL_ties 100 = .ok (.bipush 16, 2) := by decide +kernel
theorem dL_ties_102 : decode cL_ties 102 = .ok (.if_icmp .ne 7, 3) := by decide +kernel
theorem dL_ties_105 : decode cL_ties 105 = .ok (.iconst 1, 1) := by decide +kernel
theorem dL_ties_106 : decode cL_ties 106 = .ok (.goto 78, 3) := by decide +kernel
theorem dL_ties_109 : decode cL_ties 109 = .ok (.iconst 0, 1) := by decide +kernel
theorem dL_ties_110 : decode cL_ties 110 = .ok (.goto 74, 3) := by decide +kernel
theorem dL_ties_113 : decode cL_ties 113 = .ok (.iload 9, 2) := by decide +kernel
theorem dL_ties_115 : decode cL_ties 115 = .ok (.iconst 1, 1) := by decide +kernel
theorem dL_ties_116 : decode cL_ties 116 = .ok (.if_icmp .ne 19, 3) := by decide +kernel
theorem dL_ties_119 : decode cL_ties 119 = .ok (.iload_n 3, 1) := by decide +kernel
theorem dL_ties_120 : decode cL_ties 120 = .ok (.iload_n 2, 1) := by decide +kernel
theorem dL_ties_121 : decode cL_ties 121 = .ok (.iadd, 1) := by decide +kernel
theorem dL_ties_122 : decode cL_ties 122 = .ok (.ldc 59, 2) := by decide +kernel
theorem dL_ties_124 : decode cL_ties 124 = .ok (.if_icmp .le 7, 3) := by decide +kernel
theorem dL_ties_127 : decode cL_ties 127 = .ok (.iconst 1, 1) := by decide +kernel
theorem dL_ties_128 : decode cL_ties 128 = .ok (.goto 56, 3) := by decide +kernel
theorem dL_ties_131 : decode cL_ties 131 = .ok (.iconst 0, 1) := by decide +kernel
theorem dL_ties_132 : decode cL_ties 132 = .ok (.goto 52, 3) := by decide +kernel
theorem dL_ties_135 : decode cL_ties 135 = .ok (.iload 9, 2) := by decide +kernel
theorem dL_ties_137 : decode cL_ties 137 = .ok (.iconst 2, 1) := by decide +kernel
theorem dL_ties_138 : decode cL_ties 138 = .ok (.if_icmp .ne 26, 3) := by decide +kernel
theorem dL_ties_141 : decode cL_ties 141 = .ok (.iload_n 3, 1) := by decide +kernel
theorem dL_ties_142 : decode cL_ties 142 = .ok (.iload_n 2, 1) := by decide +kernel
theorem dL_ties_143 : decode cL_ties 143 = .ok (.iadd, 1) := by decide +kernel
theorem dL_ties_144 : decode cL_ties 144 = .ok (.ldc 59, 2) := by decide +kernel
theorem dL_ties_146 : decode cL_ties 146 = .ok (.if_icmp .gt 14, 3) := by decide +kernel
theorem dL_ties_149 : decode cL_ties 149 = .ok (.iload 4, 2) := by decide +kernel
theorem dL_ties_151 : decode cL_ties 151 = .ok (.bipush 16, 2) := by decide +kernel
theorem dL_ties_153 : decode cL_ties 153 = .ok (.if_icmp .ge 7, 3) := by decide +kernel
theorem dL_ties_156 : decode cL_ties 156 = .ok (.iconst 1, 1) := by decide +kernel
theorem dL_ties_157 : decode cL_ties 157 = .ok (.goto 27, 3) := by decide +kernel
theorem dL_ties_160 : decode cL_ties 160 = .ok (.iconst 0, 1) := by decide +kernel
theorem dL_ties_161 : decode cL_ties 161 = .ok (.goto 23, 3) := by decide +kernel
theorem dL_ties_164 : decode cL_ties 164 = .ok (.iload 4, 2) := by decide +kernel
theorem dL_ties_166 : decode cL_ties 166 = .ok (.bipush 16, 2) := by decide +kernel
theorem dL_ties_168 : decode cL_ties 168 = .ok (.if_icmp .ge 15, 3) := by decide +kernel
theorem dL_ties_171 : decode cL_ties 171 = .ok (.iload_n 3, 1) := by decide +kernel
theorem dL_ties_172 : decode cL_ties 172 = .ok (.iload_n 2, 1) := by decide +kernel
theorem dL_ties_173 : decode cL_ties 173 = .ok (.iadd, 1) := by decide +kernel
theorem dL_ties_174 : decode cL_ties 174 = .ok (.ldc 59, 2) := by decide +kernel
theorem dL_ties_176 : decode cL_ties 176 = .ok (.if_icmp .gt 7, 3) := by decide +kernel
theorem dL_ties_179 : decode cL_ties 179 = .ok (.iconst 1, 1) := by decide +kernel
theorem dL_ties_180 : decode cL_ties 180 = .ok (.goto 4, 3) := by decide +kernel
theorem dL_ties_183 : decode cL_ties 183 = .ok (.iconst 0, 1) := by decide +kernel
theorem dL_ties_184 : decode cL_ties 184 = .ok (.istore 12, 2) := by decide +kernel
theorem dL_ties_186 : decode cL_ties 186 = .ok (.aload_n 0, 1) := by decide +kernel
theorem dL_ties_187 : decode cL_ties 187 = .ok (.iload_n 1, 1) := by decide +kernel
theorem dL_ties_188 : decode cL_ties 188 = .ok (.iload_n 2, 1) := by decide +kernel
theorem dL_ties_189 : decode cL_ties 189 = .ok (.invokevirtual 60, 3) := by decide +kernel
theorem dL_ties_192 : decode cL_ties 192 = .ok (.istore 13, 2) := by decide +kernel
theorem dL_ties_194 : decode cL_ties 194 = .ok (.iload 9, 2) := by decide +kernel
theorem dL_ties_196 : decode cL_ties 196 = .ok (.ifCond .le 60, 3) := by decide +kernel
theorem dL_ties_199 : decode cL_ties 199 = .ok (.iload 12, 2) := by decide +kernel
theorem dL_ties_201 : decode cL_ties 201 = .ok (.ifCond .eq 53, 3) := by decide +kernel
theorem dL_ties_204 : decode cL_ties 204 = .ok (.iload 10, 2) := by decide +kernel
theorem dL_ties_206 : decode cL_ties 206 = .ok (.ifCond .ne 48, 3) := by decide +kernel
theorem dL_ties_209 : decode cL_ties 209 = .ok (.iload 13, 2) := by decide +kernel
theorem dL_ties_211 : decode cL_ties 211 = .ok (.iload 9, 2) := by decide +kernel
theorem dL_ties_213 : decode cL_ties 213 = .ok (.if_icmp .ne 41, 3) := by decide +kernel
theorem dL_ties_216 : decode cL_ties 216 = .ok (.aload_n 0, 1) := by decide +kernel
theorem dL_ties_217 : decode cL_ties 217 = .ok (.bipush 6, 2) := by decide +kernel
theorem dL_ties_219 : decode cL_ties 219 = .ok (.invokevirtual 20, 3) := by decide +kernel
theorem dL_ties_222 : decode cL_ties 222 = .ok (.iload 6, 2) := by decide +kernel
theorem dL_ties_224 : decode cL_ties 224 = .ok (.iconst 1, 1) := by decide +kernel
theorem dL_ties_225 : decode cL_ties 225 = .ok (.iadd, 1) := by decide +kernel
theorem dL_ties_226 : decode cL_ties 226 = .ok (.if_icmp .ne 28, 3) := by decide +kernel
theorem dL_ties_229 : decode cL_ties 229 = .ok (.aload_n 0, 1) := by decide +kernel
theorem dL_ties_230 : decode cL_ties 230 = .ok (.iload_n 1, 1) := by decide +kernel
theorem dL_ties_231 : decode cL_ties 231 = .ok (.iconst 0, 1) := by decide +kernel
theorem dL_ties_232 : decode cL_ties 232 = .ok (.invokevirtual 15, 3) := by decide +kernel
theorem dL_ties_235 : decode cL_ties 235 = .ok (.iload_n 3, 1) := by decide +kernel
theorem dL_ties_236 : decode cL_ties 236 = .ok (.if_icmp .ne 18, 3) := by decide +kernel
theorem dL_ties_239 : decode cL_ties 239 = .ok (.aload_n 0, 1) := by decide +kernel
theorem dL_ties_240 : decode cL_ties 240 = .ok (.iload_n 1, 1) := by decide +kernel
theorem dL_ties_241 : decode cL_ties 241 = .ok (.iconst 4, 1) := by decide +kernel
theorem dL_ties_242 : decode cL_ties 242 = .ok (.invokevirtual 15, 3) := by decide +kernel
theorem dL_ties_245 : decode cL_ties 245 = .ok (.iload 5, 2) := by decide +kernel
theorem dL_ties_247 : decode cL_ties 247 = .ok (.if_icmp .ne 7, 3) := by decide +kernel
theorem dL_ties_250 : decode cL_ties 250 = .ok (.iconst 1, 1) := by decide +kernel
set_option maxRecDepth 20000 in
theorem dL_ties_251 : decode cL_ties 251 = .ok (.goto 4, 3) := by decide +kernel
set_option maxRecDepth 20000 in
theorem dL_ties_254 : decode cL_ties 254 = .ok (.iconst 0, 1) := by decide +kernel
set_option maxRecDepth 20000 in
theorem dL_ties_255 : decode cL_ties 255 = .ok (.ireturn, 1) := by decide +kernel
set_option maxRecDepth 20000 in
theorem dL_ties_256 : decode cL_ties 256 = .ok (.iload 13, 2) := by decide +kernel
set_option maxRecDepth 20000 in
theorem dL_ties_258 : decode cL_ties 258 = .ok (.bipush 10, 2) := by decide +kernel
set_option maxRecDepth 20000 in
theorem dL_ties_260 : decode cL_ties 260 = .ok (.isub, 1) := by decide +kernel
set_option maxRecDepth 20000 in
theorem dL_ties_261 : decode cL_ties 261 = .ok (.istore 14, 2) := by decide +kernel
set_option maxRecDepth 20000 in
theorem dL_ties_263 : decode cL_ties 263 = .ok (.iload 12, 2) := by decide +kernel
set_option maxRecDepth 20000 in
theorem dL_ties_265 : decode cL_ties 265 = .ok (.ifCond .eq 90, 3) := by decide +kernel
set_option maxRecDepth 20000 in
theorem dL_ties_268 : decode cL_ties 268 = .ok (.iload 14, 2) := by decide +kernel
set_option maxRecDepth 20000 in
theorem dL_ties_270 : decode cL_ties 270 = .ok (.ifCond .lt 85, 3) := by decide +kernel
set_option maxRecDepth 20000 in
theorem dL_ties_273 : decode cL_ties 273 = .ok (.aload_n 0, 1) := by decide +kernel
set_option maxRecDepth 20000 in
theorem dL_ties_274 : decode cL_ties 274 = .ok (.iload_n 1, 1) := by decide +kernel
set_option maxRecDepth 20000 in
theorem dL_ties_275 : decode cL_ties 275 = .ok (.iconst 0, 1) := by decide +kernel
set_option maxRecDepth 20000 in
theorem dL_ties_276 : decode cL_ties 276 = .ok (.invokevirtual 15, 3) := by decide +kernel
set_option maxRecDepth 20000 in
theorem dL_ties_279 : decode cL_ties 279 = .ok (.iload_n 3, 1) := by decide +kernel
set_option maxRecDepth 20000 in
theorem dL_ties_280 : decode cL_ties 280 = .ok (.iload_n 2, 1) := by decide +kernel
set_option maxRecDepth 20000 in
theorem dL_ties_281 : decode cL_ties 281 = .ok (.iadd, 1) := by decide +kernel
set_option maxRecDepth 20000 in
theorem dL_ties_282 : decode cL_ties 282 = .ok (.if_icmp .ne 73, 3) := by decide +kernel
set_option maxRecDepth 20000 in
theorem dL_ties_285 : decode cL_ties 285 = .ok (.aload_n 0, 1) := by decide +kernel
set_option maxRecDepth 20000 in
theorem dL_ties_286 : decode cL_ties 286 = .ok (.iload_n 1, 1) := by decide +kernel
set_option maxRecDepth 20000 in
theorem dL_ties_287 : decode cL_ties 287 = .ok (.iconst 2, 1) := by decide +kernel
set_option maxRecDepth 20000 in
theorem dL_ties_288 : decode cL_ties 288 = .ok (.invokevirtual 15, 3) := by decide +kernel
set_option maxRecDepth 20000 in
theorem dL_ties_291 : decode cL_ties 291 = .ok (.iload 4, 2) := by decide +kernel
set_option maxRecDepth 20000 in
theorem dL_ties_293 : decode cL_ties 293 = .ok (.iconst 1, 1) := by decide +kernel
set_option maxRecDepth 20000 in
theorem dL_ties_294 : decode cL_ties 294 = .ok (.iadd, 1) := by decide +kernel
set_option maxRecDepth 20000 in
theorem dL_ties_295 : decode cL_ties 295 = .ok (.if_icmp .ne 60, 3) := by decide +kernel
set_option maxRecDepth 20000 in
theorem dL_ties_298 : decode cL_ties 298 = .ok (.aload_n 0, 1) := by decide +kernel
set_option maxRecDepth 20000 in
theorem dL_ties_299 : decode cL_ties 299 = .ok (.iload_n 1, 1) := by decide +kernel
set_option maxRecDepth 20000 in
theorem dL_ties_300 : decode cL_ties 300 = .ok (.iload 4, 2) := by decide +kernel
set_option maxRecDepth 20000 in
theorem dL_ties_302 : decode cL_ties 302 = .ok (.invokevirtual 63, 3) := by decide +kernel
set_option maxRecDepth 20000 in
theorem dL_ties_305 : decode cL_ties 305 = .ok (.iload_n 2, 1) := by decide +kernel
set_option maxRecDepth 20000 in
theorem dL_ties_306 : decode cL_ties 306 = .ok (.if_icmp .ne 49, 3) := by decide +kernel
set_option maxRecDepth 20000 in
theorem dL_ties_309 : decode cL_ties 309 = .ok (.aload_n 0, 1) := by decide +kernel
set_option maxRecDepth 20000 in
theorem dL_ties_310 : decode cL_ties 310 = .ok (.iload_n 1, 1) := by decide +kernel
set_option maxRecDepth 20000 in
theorem dL_ties_311 : decode cL_ties 311 = .ok (.iload 4, 2) := by decide +kernel
set_option maxRecDepth 20000 in
theorem dL_ties_313 : decode cL_ties 313 = .ok (.iconst 1, 1) := by decide +kernel
set_option maxRecDepth 20000 in
theorem dL_ties_314 : decode cL_ties 314 = .ok (.iadd, 1) := by decide +kernel
set_option maxRecDepth 20000 in
theorem dL_ties_315 : decode cL_ties 315 = .ok (.invokevirtual 63, 3) := by decide +kernel
set_option maxRecDepth 20000 in
theorem dL_ties_318 : decode cL_ties 318 = .ok (.iconst (-1), 1) := by decide +kernel
set_option maxRecDepth 20000 in
theorem dL_ties_319 : decode cL_ties 319 = .ok (.if_icmp .ne 36, 3) := by decide +kernel
set_option maxRecDepth 20000 in
theorem dL_ties_322 : decode cL_ties 322 = .ok (.aload_n 0, 1) := by decide +kernel
set_option maxRecDepth 20000 in
theorem dL_ties_323 : decode cL_ties 323 = .ok (.iconst 2, 1) := by decide +kernel
set_option maxRecDepth 20000 in
theorem dL_ties_324 : decode cL_ties 324 = .ok (.invokevirtual 20, 3) := by decide +kernel
set_option maxRecDepth 20000 in
theorem dL_ties_327 : decode cL_ties 327 = .ok (.iload 7, 2) := by decide +kernel
set_option maxRecDepth 20000 in
theorem dL_ties_329 : decode cL_ties 329 = .ok (.iload 11, 2) := by decide +kernel
set_option maxRecDepth 20000 in
theorem dL_ties_331 : decode cL_ties 331 = .ok (.iadd, 1) := by decide +kernel
set_option maxRecDepth 20000 in
theorem dL_ties_332 : decode cL_ties 332 = .ok (.iload 14, 2) := by decide +kernel
set_option maxRecDepth 20000 in
theorem dL_ties_334 : decode cL_ties 334 = .ok (.iadd, 1) := by decide +kernel
set_option maxRecDepth 20000 in
theorem dL_ties_335 : decode cL_ties 335 = .ok (.if_icmp .ne 20, 3) := by decide +kernel
set_option maxRecDepth 20000 in
theorem dL_ties_338 : decode cL_ties 338 = .ok (.aload_n 0, 1) := by decide +kernel
set_option maxRecDepth 20000 in
theorem dL_ties_339 : decode cL_ties 339 = .ok (.iconst 3, 1) := by decide +kernel
set_option maxRecDepth 20000 in
theorem dL_ties_340 : decode cL_ties 340 = .ok (.invokevirtual 20, 3) := by decide +kernel
set_option maxRecDepth 20000 in
theorem dL_ties_343 : decode cL_ties 343 = .ok (.iload 8, 2) := by decide +kernel
set_option maxRecDepth 20000 in
theorem dL_ties_345 : decode cL_ties 345 = .ok (.iload 14, 2) := by decide +kernel
set_option maxRecDepth 20000 in
theorem dL_ties_347 : decode cL_ties 347 = .ok (.iadd, 1) := by decide +kernel
set_option maxRecDepth 20000 in
theorem dL_ties_348 : decode cL_ties 348 = .ok (.if_icmp .ne 7, 3) := by decide +kernel
set_option maxRecDepth 20000 in
theorem dL_ties_351 : decode cL_ties 351 = .ok (.iconst 1, 1) := by decide +kernel
set_option maxRecDepth 20000 in
theorem dL_ties_352 : decode cL_ties 352 = .ok (.goto 4, 3) := by decide +kernel
set_option maxRecDepth 20000 in
theorem dL_ties_355 : decode cL_ties 355 = .ok (.iconst 0, 1) := by decide +kernel
set_option maxRecDepth 20000 in
theorem dL_ties_356 : decode cL_ties 356 = .ok (.istore 15, 2) := by decide +kernel
set_option maxRecDepth 20000 in
theorem dL_ties_358 : decode cL_ties 358 = .ok (.iload 15, 2) := by decide +kernel
set_option maxRecDepth 20000 in
theorem dL_ties_360 : decode cL_ties 360 = .ok (.ifCond .eq 50, 3) := by decide +kernel
set_option maxRecDepth 20000 in
theorem dL_ties_363 : decode cL_ties 363 = .ok (.aload_n 0, 1) := by decide +kernel
set_option maxRecDepth 20000 in
theorem dL_ties_364 : decode cL_ties 364 = .ok (.iload_n 1, 1) := by decide +kernel
set_option maxRecDepth 20000 in
theorem dL_ties_365 : decode cL_ties 365 = .ok (.iconst 4, 1) := by decide +kernel
set_option maxRecDepth 20000 in
theorem dL_ties_366 : decode cL_ties 366 = .ok (.invokevirtual 15, 3) := by decide +kernel
set_option maxRecDepth 20000 in
theorem dL_ties_369 : decode cL_ties 369 = .ok (.iload 5, 2) := by decide +kernel
set_option maxRecDepth 20000 in
theorem dL_ties_371 : decode cL_ties 371 = .ok (.iload 11, 2) := by decide +kernel
set_option maxRecDepth 20000 in
theorem dL_ties_373 : decode cL_ties 373 = .ok (.iadd, 1) := by decide +kernel
set_option maxRecDepth 20000 in
theorem dL_ties_374 : decode cL_ties 374 = .ok (.iconst 2, 1) := by decide +kernel
set_option maxRecDepth 20000 in
theorem dL_ties_375 : decode cL_ties 375 = .ok (.iload 14, 2) := by decide +kernel
set_option maxRecDepth 20000 in
theorem dL_ties_377 : decode cL_ties 377 = .ok (.imul, 1) := by decide +kernel
set_option maxRecDepth 20000 in
theorem dL_ties_378 : decode cL_ties 378 = .ok (.iadd, 1) := by decide +kernel
set_option maxRecDepth 20000 in
theorem dL_ties_379 : decode cL_ties 379 = .ok (.if_icmp .ne 31, 3) := by decide +kernel
set_option maxRecDepth 20000 in
theorem dL_ties_382 : decode cL_ties 382 = .ok (.iload 10, 2) := by decide +kernel
set_option maxRecDepth 20000 in
theorem dL_ties_384 : decode cL_ties 384 = .ok (.aload_n 0, 1) := by decide +kernel
set_option maxRecDepth 20000 in
theorem dL_ties_385 : decode cL_ties 385 = .ok (.iload_n 1, 1) := by decide +kernel
set_option maxRecDepth 20000 in
theorem dL_ties_386 : decode cL_ties 386 = .ok (.iload_n 2, 1) := by decide +kernel
set_option maxRecDepth 20000 in
theorem dL_ties_387 : decode cL_ties 387 = .ok (.invokevirtual 56, 3) := by decide +kernel
set_option maxRecDepth 20000 in
theorem dL_ties_390 : decode cL_ties 390 = .ok (.iconst 1, 1) := by decide +kernel
set_option maxRecDepth 20000 in
theorem dL_ties_391 : decode cL_ties 391 = .ok (.iadd, 1) := by decide +kernel
set_option maxRecDepth 20000 in
theorem dL_ties_392 : decode cL_ties 392 = .ok (.if_icmp .ne 18, 3) := by decide +kernel
set_option maxRecDepth 20000 in
theorem dL_ties_395 : decode cL_ties 395 = .ok (.aload_n 0, 1) := by decide +kernel
set_option maxRecDepth 20000 in
theorem dL_ties_396 : decode cL_ties 396 = .ok (.bipush 6, 2) := by decide +kernel
set_option maxRecDepth 20000 in
theorem dL_ties_398 : decode cL_ties 398 = .ok (.invokevirtual 20, 3) := by decide +kernel
set_option maxRecDepth 20000 in
theorem dL_ties_401 : decode cL_ties 401 = .ok (.iload 6, 2) := by decide +kernel
set_option maxRecDepth 20000 in
theorem dL_ties_403 : decode cL_ties 403 = .ok (.if_icmp .ne 7, 3) := by decide +kernel
set_option maxRecDepth 20000 in
theorem dL_ties_406 : decode cL_ties 406 = .ok (.iconst 1, 1) := by decide +kernel
set_option maxRecDepth 20000 in
theorem dL_ties_407 : decode cL_ties 407 = .ok (.goto 4, 3) := by decide +kernel
set_option maxRecDepth 20000 in
theorem dL_ties_410 : decode cL_ties 410 = .ok (.iconst 0, 1) := by decide +kernel
set_option maxRecDepth 20000 in
theorem dL_ties_411 : decode cL_ties 411 = .ok (.ireturn, 1) := by decide +kernel
theorem dL_isCord_0 : decode cL_isCord 0 = .ok (.iconst 0, 1) := by decide +kernel
theorem dL_isCord_1 : decode cL_isCord 1 = .ok (.istore_n 2, 1) := by decide +kernel
theorem dL_isCord_2 : decode cL_isCord 2 = .ok (.iconst 1, 1) := by decide +kernel
theorem dL_isCord_3 : decode cL_isCord 3 = .ok (.istore_n 3, 1) := by decide +kernel
theorem dL_isCord_4 : decode cL_isCord 4 = .ok (.iconst 0, 1) := by decide +kernel
theorem dL_isCord_5 : decode cL_isCord 5 = .ok (.istore 4, 2) := by decide +kernel
theorem dL_isCord_7 : decode cL_isCord 7 = .ok (.iconst 0, 1) := by decide +kernel
theorem dL_isCord_8 : decode cL_isCord 8 = .ok (.istore 5, 2) := by decide +kernel
theorem dL_isCord_10 : decode cL_isCord 10 = .ok (.iconst 0, 1) := by decide +kernel
theorem dL_isCord_11 : decode cL_isCord 11 = .ok (.istore 6, 2) := by decide +kernel
theorem dL_isCord_13 : decode cL_isCord 13 = .ok (.iconst 1, 1) := by decide +kernel
theorem dL_isCord_14 : decode cL_isCord 14 = .ok (.istore 7, 2) := by decide +kernel
theorem dL_isCord_16 : decode cL_isCord 16 = .ok (.iconst 0, 1) := by decide +kernel
theorem dL_isCord_17 : decode cL_isCord 17 = .ok (.istore 8, 2) := by decide +kernel
theorem dL_isCord_19 : decode cL_isCord 19 = .ok (.iload 8, 2) := by decide +kernel
theorem dL_isCord_21 : decode cL_isCord 21 = .ok (.bipush 6, 2) := by decide +kernel
theorem dL_isCord_23 : decode cL_isCord 23 = .ok (.if_icmp .ge 141, 3) := by decide +kernel
theorem dL_isCord_26 : decode cL_isCord 26 = .ok (.iload 7, 2) := by decide +kernel
theorem dL_isCord_28 : decode cL_isCord 28 = .ok (.ifCond .eq 136, 3) := by decide +kernel
theorem dL_isCord_31 : decode cL_isCord 31 = .ok (.aload_n 0, 1) := by decide +kernel
theorem dL_isCord_32 : decode cL_isCord 32 = .ok (.iload_n 1, 1) := by decide +kernel
theorem dL_isCord_33 : decode cL_isCord 33 = .ok (.iload 8, 2) := by decide +kernel
theorem dL_isCord_35 : decode cL_isCord 35 = .ok (.iconst 0, 1) := by decide +kernel
theorem dL_isCord_36 : decode cL_isCord 36 = .ok (.invokevirtual 37, 3) := by decide +kernel
theorem dL_isCord_39 : decode cL_isCord 39 = .ok (.istore 9, 2) := by decide +kernel
theorem dL_isCord_41 : decode cL_isCord 41 = .ok (.aload_n 0, 1) := by decide +kernel
theorem dL_isCord_42 : decode cL_isCord 42 = .ok (.iload_n 1, 1) := by decide +kernel
theorem dL_isCord_43 : decode cL_isCord 43 = .ok (.iload 8, 2) := by decide +kernel
theorem dL_isCord_45 : decode cL_isCord 45 = .ok (.iconst 1, 1) := by decide +kernel
theorem dL_isCord_46 : decode cL_isCord 46 = .ok (.invokevirtual 37, 3) := by decide +kernel
theorem dL_isCord_49 : decode cL_isCord 49 = .ok (.istore 10, 2) := by decide +kernel
theorem dL_isCord_51 : decode cL_isCord 51 = .ok (.aload_n 0, 1) := by decide +kernel
theorem dL_isCord_52 : decode cL_isCord 52 = .ok (.iload_n 1, 1) := by decide +kernel
theorem dL_isCord_53 : decode cL_isCord 53 = .ok (.iload 8, 2) := by decide +kernel
theorem dL_isCord_55 : decode cL_isCord 55 = .ok (.iconst 2, 1) := by decide +kernel
theorem dL_isCord_56 : decode cL_isCord 56 = .ok (.invokevirtual 37, 3) := by decide +kernel
theorem dL_isCord_59 : decode cL_isCord 59 = .ok (.istore 11, 2) := by decide +kernel
theorem dL_isCord_61 : decode cL_isCord 61 = .ok (.aload_n 0, 1) := by decide +kernel
theorem dL_isCord_62 : decode cL_isCord 62 = .ok (.bipush 8, 2) := by decide +kernel
theorem dL_isCord_64 : decode cL_isCord 64 = .ok (.invokevirtual 20, 3) := by decide +kernel
theorem dL_isCord_67 : decode cL_isCord 67 = .ok (.iload 9, 2) := by decide +kernel
theorem dL_isCord_69 : decode cL_isCord 69 = .ok (.isub, 1) := by decide +kernel
theorem dL_isCord_70 : decode cL_isCord 70 = .ok (.iload 10, 2) := by decide +kernel
theorem dL_isCord_72 : decode cL_isCord 72 = .ok (.isub, 1) := by decide +kernel
theorem dL_isCord_73 : decode cL_isCord 73 = .ok (.istore 12, 2) := by decide +kernel
theorem dL_isCord_75 : decode cL_isCord 75 = .ok (.iload 11, 2) := by decide +kernel
theorem dL_isCord_77 : decode cL_isCord 77 = .ok (.iload 9, 2) := by decide +kernel
theorem dL_isCord_79 : decode cL_isCord 79 = .ok (.bipush 10, 2) := by decide +kernel
theorem dL_isCord_81 : decode cL_isCord 81 = .ok (.iload 10, 2) := by decide +kernel
theorem dL_isCord_83 : decode cL_isCord 83 = .ok (.imul, 1) := by decide +kernel
theorem dL_isCord_84 : decode cL_isCord 84 = .ok (.isub, 1) := by decide +kernel
theorem dL_isCord_85 : decode cL_isCord 85 = .ok (.if_icmp .ne 41, 3) := by decide +kernel
theorem dL_isCord_88 : decode cL_isCord 88 = .ok (.iload 11, 2) := by decide +kernel
theorem dL_isCord_90 : decode cL_isCord 90 = .ok (.ifCond .lt 36, 3) := by decide +kernel
theorem dL_isCord_93 : decode cL_isCord 93 = .ok (.iload 11, 2) := by decide +kernel
theorem dL_isCord_95 : decode cL_isCord 95 = .ok (.bipush 10, 2) := by decide +kernel
theorem dL_isCord_97 : decode cL_isCord 97 = .ok (.if_icmp .ge 29, 3) := by decide +kernel
theorem dL_isCord_100 : decode cL_isCord 100 = .ok (.aload_n 0, 1) := by decide +kernel
theorem dL_isCord_101 : decode cL_isCord 101 = .ok (.iload_n 1, 1) := by decide +kernel
theorem dL_isCord_102 : decode cL_isCord 102 = .ok (.iload 8, 2) := by decide +kernel
theorem dL_isCord_104 : decode cL_isCord 104 = .ok (.iconst 3, 1) := by decide +kernel
theorem dL_isCord_105 : decode cL_isCord 105 = .ok (.invokevirtual 37, 3) := by decide +kernel
theorem dL_isCord_108 : decode cL_isCord 108 = .ok (.iload 12, 2) := by decide +kernel
theorem dL_isCord_110 : decode cL_isCord 110 = .ok (.ifCond .le 8, 3) := by decide +kernel
theorem dL_isCord_113 : decode cL_isCord 113 = .ok (.iload 12, 2) := by decide +kernel
theorem dL_isCord_115 : decode cL_isCord 115 = .ok (.goto 4, 3) := by decide +kernel
theorem dL_isCord_118 : decode cL_isCord 118 = .ok (.iconst 0, 1) := by decide +kernel
theorem dL_isCord_119 : decode cL_isCord 119 = .ok (.if_icmp .ne 7, 3) := by decide +kernel
theorem dL_isCord_122 : decode cL_isCord 122 = .ok (.iconst 1, 1) := by decide +kernel
theorem dL_isCord_123 : decode cL_isCord 123 = .ok (.goto 4, 3) := by decide +kernel
theorem dL_isCord_126 : decode cL_isCord 126 = .ok (.iconst 0, 1) := by decide +kernel
theorem dL_isCord_127 : decode cL_isCord 127 = .ok (.istore 7, 2) := by decide +kernel
theorem dL_isCord_129 : decode cL_isCord 129 = .ok (.iload_n 2, 1) := by decide +kernel
theorem dL_isCord_130 : decode cL_isCord 130 = .ok (.iload 11, 2) := by decide +kernel
theorem dL_isCord_132 : decode cL_isCord 132 = .ok (.iload_n 3, 1) := by decide +kernel
theorem dL_isCord_133 : decode cL_isCord 133 = .ok (.imul, 1) := by decide +kernel
theorem dL_isCord_134 : decode cL_isCord 134 = .ok (.iadd, 1) := by decide +kernel
theorem dL_isCord_135 : decode cL_isCord 135 = .ok (.istore_n 2, 1) := by decide +kernel
theorem dL_isCord_136 : decode cL_isCord 136 = .ok (.iload_n 3, 1) := by decide +kernel
theorem dL_isCord_137 : decode cL_isCord 137 = .ok (.bipush 10, 2) := by decide +kernel
theorem dL_isCord_139 : decode cL_isCord 139 = .ok (.imul, 1) := by decide +kernel
theorem dL_isCord_140 : decode cL_isCord 140 = .ok (.istore_n 3, 1) := by decide +kernel
theorem dL_isCord_141 : decode cL_isCord 141 = .ok (.iload 4, 2) := by decide +kernel
theorem dL_isCord_143 : decode cL_isCord 143 = .ok (.iload 9, 2) := by decide +kernel
theorem dL_isCord_145 : decode cL_isCord 145 = .ok (.iload 10, 2) := by decide +kernel
theorem dL_isCord_147 : decode cL_isCord 147 = .ok (.iadd, 1) := by decide +kernel
theorem dL_isCord_148 : decode cL_isCord 148 = .ok (.iadd, 1) := by decide +kernel
theorem dL_isCord_149 : decode cL_isCord 149 = .ok (.istore 4, 2) := by decide +kernel
theorem dL_isCord_151 : decode cL_isCord 151 = .ok (.iload 5, 2) := by decide +kernel
theorem dL_isCord_153 : decode cL_isCord 153 = .ok (.iload 10, 2) := by decide +kernel
theorem dL_isCord_155 : decode cL_isCord 155 = .ok (.iadd, 1) := by decide +kernel
theorem dL_isCord_156 : decode cL_isCord 156 = .ok (.istore 5, 2) := by decide +kernel
theorem dL_isCord_158 : decode cL_isCord 158 = .ok (.iinc 8 1, 3) := by decide +kernel
theorem dL_isCord_161 : decode cL_isCord 161 = .ok (.goto (-142), 3) := by decide +kernel
theorem dL_isCord_164 : decode cL_isCord 164 = .ok (.iconst 0, 1) := by decide +kernel
theorem dL_isCord_165 : decode cL_isCord 165 = .ok (.istore 8, 2) := by decide +kernel
theorem dL_isCord_167 : decode cL_isCord 167 = .ok (.iload 8, 2) := by decide +kernel
theorem dL_isCord_169 : decode cL_isCord 169 = .ok (.aload_n 0, 1) := by decide +kernel
theorem dL_isCord_170 : decode cL_isCord 170 = .ok (.iload_n 1, 1) := by decide +kernel
theorem dL_isCord_171 : decode cL_isCord 171 = .ok (.iconst 2, 1) := by decide +kernel
theorem dL_isCord_172 : decode cL_isCord 172 = .ok (.invokevirtual 15, 3) := by decide +kernel
theorem dL_isCord_175 : decode cL_isCord 175 = .ok (.if_icmp .ge 43, 3) := by decide +kernel
theorem dL_isCord_178 : decode cL_isCord 178 = .ok (.iload 7, 2) := by decide +kernel
theorem dL_isCord_180 : decode cL_isCord 180 = .ok (.ifCond .eq 38, 3) := by decide +kernel
theorem dL_isCord_183 : decode cL_isCord 183 = .ok (.iload 6, 2) := by decide +kernel
theorem dL_isCord_185 : decode cL_isCord 185 = .ok (.aload_n 0, 1) := by decide +kernel
theorem dL_isCord_186 : decode cL_isCord 186 = .ok (.iload_n 1, 1) := by decide +kernel
theorem dL_isCord_187 : decode cL_isCord 187 = .ok (.iload 8, 2) := by decide +kernel
theorem dL_isCord_189 : decode cL_isCord 189 = .ok (.invokevirtual 63, 3) := by decide +kernel
theorem dL_isCord_192 : decode cL_isCord 192 = .ok (.iadd, 1) := by decide +kernel
theorem dL_isCord_193 : decode cL_isCord 193 = .ok (.istore 6, 2) := by decide +kernel
theorem dL_isCord_195 : decode cL_isCord 195 = .ok (.aload_n 0, 1) := by decide +kernel
theorem dL_isCord_196 : decode cL_isCord 196 = .ok (.iload_n 1, 1) := by decide +kernel
theorem dL_isCord_197 : decode cL_isCord 197 = .ok (.iload 8, 2) := by decide +kernel
theorem dL_isCord_199 : decode cL_isCord 199 = .ok (.invokevirtual 63, 3) := by decide +kernel
theorem dL_isCord_202 : decode cL_isCord 202 = .ok (.ifCond .le 7, 3) := by decide +kernel
theorem dL_isCord_205 : decode cL_isCord 205 = .ok (.iconst 1, 1) := by decide +kernel
theorem dL_isCord_206 : decode cL_isCord 206 = .ok (.goto 4, 3) := by decide +kernel
theorem dL_isCord_209 : decode cL_isCord 209 = .ok (.iconst 0, 1) := by decide +kernel
theorem dL_isCord_210 : decode cL_isCord 210 = .ok (.istore 7, 2) := by decide +kernel
theorem dL_isCord_212 : decode cL_isCord 212 = .ok (.iinc 8 1, 3) := by decide +kernel
theorem dL_isCord_215 : decode cL_isCord 215 = .ok (.goto (-48), 3) := by decide +kernel
theorem dL_isCord_218 : decode cL_isCord 218 = .ok (.iload 7, 2) := by decide +kernel
theorem dL_isCord_220 : decode cL_isCord 220 = .ok (.ifCond .eq 79, 3) := by decide +kernel
theorem dL_isCord_223 : decode cL_isCord 223 = .ok (.iload_n 2, 1) := by decide +kernel
theorem dL_isCord_224 : decode cL_isCord 224 = .ok (.aload_n 0, 1) := by decide +kernel
theorem dL_isCord_225 : decode cL_isCord 225 = .ok (.iload_n 1, 1) := by decide +kernel
theorem dL_isCord_226 : decode cL_isCord 226 = .ok (.iconst 0, 1) := by decide +kernel
theorem dL_isCord_227 : decode cL_isCord 227 = .ok (.invokevirtual 15, 3) := by decide +kernel
theorem dL_isCord_230 : decode cL_isCord 230 = .ok (.if_icmp .ne 69, 3) := by decide +kernel
theorem dL_isCord_233 : decode cL_isCord 233 = .ok (.iload 6, 2) := by decide +kernel
theorem dL_isCord_235 : decode cL_isCord 235 = .ok (.aload_n 0, 1) := by decide +kernel
theorem dL_isCord_236 : decode cL_isCord 236 = .ok (.iload_n 1, 1) := by decide +kernel
theorem dL_isCord_237 : decode cL_isCord 237 = .ok (.iconst 1, 1) := by decide +kernel
theorem dL_isCord_238 : decode cL_isCord 238 = .ok (.invokevirtual 15, 3) := by decide +kernel
theorem dL_isCord_241 : decode cL_isCord 241 = .ok (.if_icmp .ne 58, 3) := by decide +kernel
theorem dL_isCord_244 : decode cL_isCord 244 = .ok (.aload_n 0, 1) := by decide +kernel
theorem dL_isCord_245 : decode cL_isCord 245 = .ok (.iload_n 1, 1) := by decide +kernel
theorem dL_isCord_246 : decode cL_isCord 246 = .ok (.iconst 3, 1) := by decide +kernel
theorem dL_isCord_247 : decode cL_isCord 247 = .ok (.invokevirtual 15, 3) := by decide +kernel
theorem dL_isCord_250 : decode cL_isCord 250 = .ok (.iload 6, 2) := by decide +kernel
set_option maxRecDepth 20000 in
theorem dL_isCord_252 : decode cL_isCord 252 = .ok (.iload_n 2, 1) := by decide +kernel
set_option maxRecDepth 20000 in
theorem dL_isCord_253 : decode cL_isCord 253 = .ok (.isub, 1) := by decide +kernel
set_option maxRecDepth 20000 in
theorem dL_isCord_254 : decode cL_isCord 254 = .ok (.if_icmp .ne 45, 3) := by decide +kernel
set_option maxRecDepth 20000 in
theorem dL_isCord_257 : decode cL_isCord 257 = .ok (.iload 6, 2) := by decide +kernel
set_option maxRecDepth 20000 in
theorem dL_isCord_259 : decode cL_isCord 259 = .ok (.iload_n 2, 1) := by decide +kernel
set_option maxRecDepth 20000 in
theorem dL_isCord_260 : decode cL_isCord 260 = .ok (.if_icmp .lt 39, 3) := by decide +kernel
set_option maxRecDepth 20000 in
theorem dL_isCord_263 : decode cL_isCord 263 = .ok (.iload 4, 2) := by decide +kernel
set_option maxRecDepth 20000 in
theorem dL_isCord_265 : decode cL_isCord 265 = .ok (.aload_n 0, 1) := by decide +kernel
set_option maxRecDepth 20000 in
theorem dL_isCord_266 : decode cL_isCord 266 = .ok (.iload_n 1, 1) := by decide +kernel
set_option maxRecDepth 20000 in
theorem dL_isCord_267 : decode cL_isCord 267 = .ok (.iconst 4, 1) := by decide +kernel
set_option maxRecDepth 20000 in
theorem dL_isCord_268 : decode cL_isCord 268 = .ok (.invokevirtual 15, 3) := by decide +kernel
set_option maxRecDepth 20000 in
theorem dL_isCord_271 : decode cL_isCord 271 = .ok (.if_icmp .ne 28, 3) := by decide +kernel
set_option maxRecDepth 20000 in
theorem dL_isCord_274 : decode cL_isCord 274 = .ok (.iload 5, 2) := by decide +kernel
set_option maxRecDepth 20000 in
theorem dL_isCord_276 : decode cL_isCord 276 = .ok (.aload_n 0, 1) := by decide +kernel
set_option maxRecDepth 20000 in
theorem dL_isCord_277 : decode cL_isCord 277 = .ok (.iload_n 1, 1) := by decide +kernel
set_option maxRecDepth 20000 in
theorem dL_isCord_278 : decode cL_isCord 278 = .ok (.iconst 5, 1) := by decide +kernel
set_option maxRecDepth 20000 in
theorem dL_isCord_279 : decode cL_isCord 279 = .ok (.invokevirtual 15, 3) := by decide +kernel
set_option maxRecDepth 20000 in
theorem dL_isCord_282 : decode cL_isCord 282 = .ok (.if_icmp .ne 17, 3) := by decide +kernel
set_option maxRecDepth 20000 in
theorem dL_isCord_285 : decode cL_isCord 285 = .ok (.aload_n 0, 1) := by decide +kernel
set_option maxRecDepth 20000 in
theorem dL_isCord_286 : decode cL_isCord 286 = .ok (.iload_n 1, 1) := by decide +kernel
set_option maxRecDepth 20000 in
theorem dL_isCord_287 : decode cL_isCord 287 = .ok (.bipush 7, 2) := by decide +kernel
set_option maxRecDepth 20000 in
theorem dL_isCord_289 : decode cL_isCord 289 = .ok (.invokevirtual 15, 3) := by decide +kernel
set_option maxRecDepth 20000 in
theorem dL_isCord_292 : decode cL_isCord 292 = .ok (.ifCond .lt 7, 3) := by decide +kernel
set_option maxRecDepth 20000 in
theorem dL_isCord_295 : decode cL_isCord 295 = .ok (.iconst 1, 1) := by decide +kernel
set_option maxRecDepth 20000 in
theorem dL_isCord_296 : decode cL_isCord 296 = .ok (.goto 4, 3) := by decide +kernel
set_option maxRecDepth 20000 in
theorem dL_isCord_299 : decode cL_isCord 299 = .ok (.iconst 0, 1) := by decide +kernel
set_option maxRecDepth 20000 in
theorem dL_isCord_300 : decode cL_isCord 300 = .ok (.ireturn, 1) := by decide +kernel
theorem dL_holds_0 : decode cL_holds 0 = .ok (.iconst 0, 1) := by decide +kernel
theorem dL_holds_1 : decode cL_holds 1 = .ok (.istore_n 2, 1) := by decide +kernel
theorem dL_holds_2 : decode cL_holds 2 = .ok (.iconst 0, 1) := by decide +kernel
theorem dL_holds_3 : decode cL_holds 3 = .ok (.istore_n 3, 1) := by decide +kernel
theorem dL_holds_4 : decode cL_holds 4 = .ok (.iconst 0, 1) := by decide +kernel
theorem dL_holds_5 : decode cL_holds 5 = .ok (.istore 4, 2) := by decide +kernel
theorem dL_holds_7 : decode cL_holds 7 = .ok (.iconst 0, 1) := by decide +kernel
theorem dL_holds_8 : decode cL_holds 8 = .ok (.istore 5, 2) := by decide +kernel
theorem dL_holds_10 : decode cL_holds 10 = .ok (.iconst 0, 1) := by decide +kernel
theorem dL_holds_11 : decode cL_holds 11 = .ok (.istore 6, 2) := by decide +kernel
theorem dL_holds_13 : decode cL_holds 13 = .ok (.iconst 0, 1) := by decide +kernel
theorem dL_holds_14 : decode cL_holds 14 = .ok (.istore 7, 2) := by decide +kernel
theorem dL_holds_16 : decode cL_holds 16 = .ok (.iconst 1, 1) := by decide +kernel
theorem dL_holds_17 : decode cL_holds 17 = .ok (.istore 8, 2) := by decide +kernel
theorem dL_holds_19 : decode cL_holds 19 = .ok (.iconst 0, 1) := by decide +kernel
theorem dL_holds_20 : decode cL_holds 20 = .ok (.istore 9, 2) := by decide +kernel
theorem dL_holds_22 : decode cL_holds 22 = .ok (.iload 9, 2) := by decide +kernel
theorem dL_holds_24 : decode cL_holds 24 = .ok (.bipush 7, 2) := by decide +kernel
theorem dL_holds_26 : decode cL_holds 26 = .ok (.if_icmp .ge 100, 3) := by decide +kernel
theorem dL_holds_29 : decode cL_holds 29 = .ok (.iload 8, 2) := by decide +kernel
theorem dL_holds_31 : decode cL_holds 31 = .ok (.ifCond .eq 95, 3) := by decide +kernel
theorem dL_holds_34 : decode cL_holds 34 = .ok (.aload_n 0, 1) := by decide +kernel
theorem dL_holds_35 : decode cL_holds 35 = .ok (.iload 9, 2) := by decide +kernel
theorem dL_holds_37 : decode cL_holds 37 = .ok (.invokestatic 66, 3) := by decide +kernel
theorem dL_holds_40 : decode cL_holds 40 = .ok (.istore 8, 2) := by decide +kernel
theorem dL_holds_42 : decode cL_holds 42 = .ok (.iload_n 2, 1) := by decide +kernel
theorem dL_holds_43 : decode cL_holds 43 = .ok (.aload_n 0, 1) := by decide +kernel
theorem dL_holds_44 : decode cL_holds 44 = .ok (.iload 9, 2) := by decide +kernel
theorem dL_holds_46 : decode cL_holds 46 = .ok (.iconst 0, 1) := by decide +kernel
theorem dL_holds_47 : decode cL_holds 47 = .ok (.invokevirtual 15, 3) := by decide +kernel
theorem dL_holds_50 : decode cL_holds 50 = .ok (.iadd, 1) := by decide +kernel
theorem dL_holds_51 : decode cL_holds 51 = .ok (.istore_n 2, 1) := by decide +kernel
theorem dL_holds_52 : decode cL_holds 52 = .ok (.iload_n 3, 1) := by decide +kernel
theorem dL_holds_53 : decode cL_holds 53 = .ok (.aload_n 0, 1) := by decide +kernel
theorem dL_holds_54 : decode cL_holds 54 = .ok (.iload 9, 2) := by decide +kernel
theorem dL_holds_56 : decode cL_holds 56 = .ok (.iconst 4, 1) := by decide +kernel
theorem dL_holds_57 : decode cL_holds 57 = .ok (.invokevirtual 15, 3) := by decide +kernel
theorem dL_holds_60 : decode cL_holds 60 = .ok (.iadd, 1) := by decide +kernel
theorem dL_holds_61 : decode cL_holds 61 = .ok (.istore_n 3, 1) := by decide +kernel
theorem dL_holds_62 : decode cL_holds 62 = .ok (.iload 4, 2) := by decide +kernel
theorem dL_holds_64 : decode cL_holds 64 = .ok (.aload_n 0, 1) := by decide +kernel
theorem dL_holds_65 : decode cL_holds 65 = .ok (.iload 9, 2) := by decide +kernel
theorem dL_holds_67 : decode cL_holds 67 = .ok (.iconst 5, 1) := by decide +kernel
theorem dL_holds_68 : decode cL_holds 68 = .ok (.invokevirtual 15, 3) := by decide +kernel
theorem dL_holds_71 : decode cL_holds 71 = .ok (.iadd, 1) := by decide +kernel
theorem dL_holds_72 : decode cL_holds 72 = .ok (.istore 4, 2) := by decide +kernel
theorem dL_holds_74 : decode cL_holds 74 = .ok (.iload 5, 2) := by decide +kernel
theorem dL_holds_76 : decode cL_holds 76 = .ok (.aload_n 0, 1) := by decide +kernel
theorem dL_holds_77 : decode cL_holds 77 = .ok (.iload 9, 2) := by decide +kernel
theorem dL_holds_79 : decode cL_holds 79 = .ok (.iconst 3, 1) := by decide +kernel
theorem dL_holds_80 : decode cL_holds 80 = .ok (.invokevirtual 15, 3) := by decide +kernel
theorem dL_holds_83 : decode cL_holds 83 = .ok (.ifCond .le 7, 3) := by decide +kernel
theorem dL_holds_86 : decode cL_holds 86 = .ok (.iconst 1, 1) := by decide +kernel
theorem dL_holds_87 : decode cL_holds 87 = .ok (.goto 4, 3) := by decide +kernel
theorem dL_holds_90 : decode cL_holds 90 = .ok (.iconst 0, 1) := by decide +kernel
theorem dL_holds_91 : decode cL_holds 91 = .ok (.iadd, 1) := by decide +kernel
theorem dL_holds_92 : decode cL_holds 92 = .ok (.istore 5, 2) := by decide +kernel
theorem dL_holds_94 : decode cL_holds 94 = .ok (.aload_n 0, 1) := by decide +kernel
theorem dL_holds_95 : decode cL_holds 95 = .ok (.iload 9, 2) := by decide +kernel
theorem dL_holds_97 : decode cL_holds 97 = .ok (.iconst 4, 1) := by decide +kernel
theorem dL_holds_98 : decode cL_holds 98 = .ok (.invokevirtual 15, 3) := by decide +kernel
theorem dL_holds_101 : decode cL_holds 101 = .ok (.aload_n 0, 1) := by decide +kernel
theorem dL_holds_102 : decode cL_holds 102 = .ok (.iload 7, 2) := by decide +kernel
theorem dL_holds_104 : decode cL_holds 104 = .ok (.iconst 4, 1) := by decide +kernel
theorem dL_holds_105 : decode cL_holds 105 = .ok (.invokevirtual 15, 3) := by decide +kernel
theorem dL_holds_108 : decode cL_holds 108 = .ok (.if_icmp .le 8, 3) := by decide +kernel
theorem dL_holds_111 : decode cL_holds 111 = .ok (.iload 9, 2) := by decide +kernel
theorem dL_holds_113 : decode cL_holds 113 = .ok (.goto 5, 3) := by decide +kernel
theorem dL_holds_116 : decode cL_holds 116 = .ok (.iload 7, 2) := by decide +kernel
theorem dL_holds_118 : decode cL_holds 118 = .ok (.istore 7, 2) := by decide +kernel
theorem dL_holds_120 : decode cL_holds 120 = .ok (.iinc 9 1, 3) := by decide +kernel
theorem dL_holds_123 : decode cL_holds 123 = .ok (.goto (-101), 3) := by decide +kernel
theorem dL_holds_126 : decode cL_holds 126 = .ok (.iconst 0, 1) := by decide +kernel
theorem dL_holds_127 : decode cL_holds 127 = .ok (.istore 9, 2) := by decide +kernel
theorem dL_holds_129 : decode cL_holds 129 = .ok (.iload 9, 2) := by decide +kernel
theorem dL_holds_131 : decode cL_holds 131 = .ok (.bipush 6, 2) := by decide +kernel
theorem dL_holds_133 : decode cL_holds 133 = .ok (.if_icmp .ge 20, 3) := by decide +kernel
theorem dL_holds_136 : decode cL_holds 136 = .ok (.iload 6, 2) := by decide +kernel
theorem dL_holds_138 : decode cL_holds 138 = .ok (.aload_n 0, 1) := by decide +kernel
theorem dL_holds_139 : decode cL_holds 139 = .ok (.iload 9, 2) := by decide +kernel
theorem dL_holds_141 : decode cL_holds 141 = .ok (.invokevirtual 70, 3) := by decide +kernel
theorem dL_holds_144 : decode cL_holds 144 = .ok (.iadd, 1) := by decide +kernel
theorem dL_holds_145 : decode cL_holds 145 = .ok (.istore 6, 2) := by decide +kernel
theorem dL_holds_147 : decode cL_holds 147 = .ok (.iinc 9 1, 3) := by decide +kernel
theorem dL_holds_150 : decode cL_holds 150 = .ok (.goto (-21), 3) := by decide +kernel
theorem dL_holds_153 : decode cL_holds 153 = .ok (.iload 8, 2) := by decide +kernel
theorem dL_holds_155 : decode cL_holds 155 = .ok (.ifCond .eq 78, 3) := by decide +kernel
theorem dL_holds_158 : decode cL_holds 158 = .ok (.iload_n 2, 1) := by decide +kernel
theorem dL_holds_159 : decode cL_holds 159 = .ok (.aload_n 0, 1) := by decide +kernel
theorem dL_holds_160 : decode cL_holds 160 = .ok (.iconst 0, 1) := by decide +kernel
theorem dL_holds_161 : decode cL_holds 161 = .ok (.invokevirtual 20, 3) := by decide +kernel
theorem dL_holds_164 : decode cL_holds 164 = .ok (.if_icmp .ne 69, 3) := by decide +kernel
theorem dL_holds_167 : decode cL_holds 167 = .ok (.iload_n 3, 1) := by decide +kernel
theorem dL_holds_168 : decode cL_holds 168 = .ok (.aload_n 0, 1) := by decide +kernel
theorem dL_holds_169 : decode cL_holds 169 = .ok (.iconst 1, 1) := by decide +kernel
theorem dL_holds_170 : decode cL_holds 170 = .ok (.invokevirtual 20, 3) := by decide +kernel
theorem dL_holds_173 : decode cL_holds 173 = .ok (.if_icmp .ne 60, 3) := by decide +kernel
theorem dL_holds_176 : decode cL_holds 176 = .ok (.iload 5, 2) := by decide +kernel
theorem dL_holds_178 : decode cL_holds 178 = .ok (.aload_n 0, 1) := by decide +kernel
theorem dL_holds_179 : decode cL_holds 179 = .ok (.bipush 7, 2) := by decide +kernel
theorem dL_holds_181 : decode cL_holds 181 = .ok (.invokevirtual 20, 3) := by decide +kernel
theorem dL_holds_184 : decode cL_holds 184 = .ok (.if_icmp .ne 49, 3) := by decide +kernel
theorem dL_holds_187 : decode cL_holds 187 = .ok (.iload 6, 2) := by decide +kernel
theorem dL_holds_189 : decode cL_holds 189 = .ok (.iload_n 2, 1) := by decide +kernel
theorem dL_holds_190 : decode cL_holds 190 = .ok (.if_icmp .ne 43, 3) := by decide +kernel
theorem dL_holds_193 : decode cL_holds 193 = .ok (.iload 7, 2) := by decide +kernel
theorem dL_holds_195 : decode cL_holds 195 = .ok (.aload_n 0, 1) := by decide +kernel
theorem dL_holds_196 : decode cL_holds 196 = .ok (.invokevirtual 73, 3) := by decide +kernel
theorem dL_holds_199 : decode cL_holds 199 = .ok (.if_icmp .ne 34, 3) := by decide +kernel
theorem dL_holds_202 : decode cL_holds 202 = .ok (.aload_n 0, 1) := by decide +kernel
theorem dL_holds_203 : decode cL_holds 203 = .ok (.iconst 2, 1) := by decide +kernel
theorem dL_holds_204 : decode cL_holds 204 = .ok (.invokevirtual 20, 3) := by decide +kernel
theorem dL_holds_207 : decode cL_holds 207 = .ok (.aload_n 0, 1) := by decide +kernel
theorem dL_holds_208 : decode cL_holds 208 = .ok (.iconst 3, 1) := by decide +kernel
theorem dL_holds_209 : decode cL_holds 209 = .ok (.invokevirtual 20, 3) := by decide +kernel
theorem dL_holds_212 : decode cL_holds 212 = .ok (.iadd, 1) := by decide +kernel
theorem dL_holds_213 : decode cL_holds 213 = .ok (.iload_n 3, 1) := by decide +kernel
theorem dL_holds_214 : decode cL_holds 214 = .ok (.aload_n 0, 1) := by decide +kernel
theorem dL_holds_215 : decode cL_holds 215 = .ok (.iconst 4, 1) := by decide +kernel
theorem dL_holds_216 : decode cL_holds 216 = .ok (.invokevirtual 20, 3) := by decide +kernel
theorem dL_holds_219 : decode cL_holds 219 = .ok (.iadd, 1) := by decide +kernel
theorem dL_holds_220 : decode cL_holds 220 = .ok (.aload_n 0, 1) := by decide +kernel
theorem dL_holds_221 : decode cL_holds 221 = .ok (.iconst 5, 1) := by decide +kernel
theorem dL_holds_222 : decode cL_holds 222 = .ok (.invokevirtual 20, 3) := by decide +kernel
theorem dL_holds_225 : decode cL_holds 225 = .ok (.iadd, 1) := by decide +kernel
theorem dL_holds_226 : decode cL_holds 226 = .ok (.if_icmp .ne 7, 3) := by decide +kernel
theorem dL_holds_229 : decode cL_holds 229 = .ok (.iconst 1, 1) := by decide +kernel
theorem dL_holds_230 : decode cL_holds 230 = .ok (.goto 4, 3) := by decide +kernel
theorem dL_holds_233 : decode cL_holds 233 = .ok (.iconst 0, 1) := by decide +kernel
theorem dL_holds_234 : decode cL_holds 234 = .ok (.istore 8, 2) := by decide +kernel
theorem dL_holds_236 : decode cL_holds 236 = .ok (.iload 8, 2) := by decide +kernel
theorem dL_holds_238 : decode cL_holds 238 = .ok (.ifCond .eq 37, 3) := by decide +kernel
theorem dL_holds_241 : decode cL_holds 241 = .ok (.aload_n 0, 1) := by decide +kernel
theorem dL_holds_242 : decode cL_holds 242 = .ok (.invokevirtual 77, 3) := by decide +kernel
theorem dL_holds_245 : decode cL_holds 245 = .ok (.iload_n 3, 1) := by decide +kernel
theorem dL_holds_246 : decode cL_holds 246 = .ok (.iload 4, 2) := by decide +kernel
theorem dL_holds_248 : decode cL_holds 248 = .ok (.if_icmp .ne 7, 3) := by decide +kernel
set_option maxRecDepth 20000 in
theorem dL_holds_251 : decode cL_holds 251 = .ok (.dconst 0, 1) := by decide +kernel
set_option maxRecDepth 20000 in
theorem dL_holds_252 : decode cL_holds 252 = .ok (.goto 15, 3) := by decide +kernel
set_option maxRecDepth 20000 in
theorem dL_holds_255 : decode cL_holds 255 = .ok (.bipush 10, 2) := by decide +kernel
set_option maxRecDepth 20000 in
theorem dL_holds_257 : decode cL_holds 257 = .ok (.iload 4, 2) := by decide +kernel
set_option maxRecDepth 20000 in
theorem dL_holds_259 : decode cL_holds 259 = .ok (.imul, 1) := by decide +kernel
set_option maxRecDepth 20000 in
theorem dL_holds_260 : decode cL_holds 260 = .ok (.i2d, 1) := by decide +kernel
set_option maxRecDepth 20000 in
theorem dL_holds_261 : decode cL_holds 261 = .ok (.iload_n 3, 1) := by decide +kernel
set_option maxRecDepth 20000 in
theorem dL_holds_262 : decode cL_holds 262 = .ok (.iload 4, 2) := by decide +kernel
set_option maxRecDepth 20000 in
theorem dL_holds_264 : decode cL_holds 264 = .ok (.isub, 1) := by decide +kernel
set_option maxRecDepth 20000 in
theorem dL_holds_265 : decode cL_holds 265 = .ok (.i2d, 1) := by decide +kernel
set_option maxRecDepth 20000 in
theorem dL_holds_266 : decode cL_holds 266 = .ok (.ddiv, 1) := by decide +kernel
set_option maxRecDepth 20000 in
theorem dL_holds_267 : decode cL_holds 267 = .ok (.dcmp .l, 1) := by decide +kernel
set_option maxRecDepth 20000 in
theorem dL_holds_268 : decode cL_holds 268 = .ok (.ifCond .ne 7, 3) := by decide +kernel
set_option maxRecDepth 20000 in
theorem dL_holds_271 : decode cL_holds 271 = .ok (.iconst 1, 1) := by decide +kernel
set_option maxRecDepth 20000 in
theorem dL_holds_272 : decode cL_holds 272 = .ok (.goto 4, 3) := by decide +kernel
set_option maxRecDepth 20000 in
theorem dL_holds_275 : decode cL_holds 275 = .ok (.iconst 0, 1) := by decide +kernel
set_option maxRecDepth 20000 in
theorem dL_holds_276 : decode cL_holds 276 = .ok (.istore 8, 2) := by decide +kernel
set_option maxRecDepth 20000 in
theorem dL_holds_278 : decode cL_holds 278 = .ok (.iconst 1, 1) := by decide +kernel
set_option maxRecDepth 20000 in
theorem dL_holds_279 : decode cL_holds 279 = .ok (.iload_n 1, 1) := by decide +kernel
set_option maxRecDepth 20000 in
theorem dL_holds_280 : decode cL_holds 280 = .ok (.bipush 127, 2) := by decide +kernel
set_option maxRecDepth 20000 in
theorem dL_holds_282 : decode cL_holds 282 = .ok (.invokestatic 9, 3) := by decide +kernel
set_option maxRecDepth 20000 in
theorem dL_holds_285 : decode cL_holds 285 = .ok (.iadd, 1) := by decide +kernel
set_option maxRecDepth 20000 in
theorem dL_holds_286 : decode cL_holds 286 = .ok (.istore 9, 2) := by decide +kernel
set_option maxRecDepth 20000 in
theorem dL_holds_288 : decode cL_holds 288 = .ok (.iconst 0, 1) := by decide +kernel
set_option maxRecDepth 20000 in
theorem dL_holds_289 : decode cL_holds 289 = .ok (.istore 10, 2) := by decide +kernel
set_option maxRecDepth 20000 in
theorem dL_holds_291 : decode cL_holds 291 = .ok (.iconst 0, 1) := by decide +kernel
set_option maxRecDepth 20000 in
theorem dL_holds_292 : decode cL_holds 292 = .ok (.istore 11, 2) := by decide +kernel
set_option maxRecDepth 20000 in
theorem dL_holds_294 : decode cL_holds 294 = .ok (.iload 11, 2) := by decide +kernel
set_option maxRecDepth 20000 in
theorem dL_holds_296 : decode cL_holds 296 = .ok (.bipush 7, 2) := by decide +kernel
set_option maxRecDepth 20000 in
theorem dL_holds_298 : decode cL_holds 298 = .ok (.if_icmp .ge 36, 3) := by decide +kernel
set_option maxRecDepth 20000 in
theorem dL_holds_301 : decode cL_holds 301 = .ok (.iload 10, 2) := by decide +kernel
set_option maxRecDepth 20000 in
theorem dL_holds_303 : decode cL_holds 303 = .ok (.iload 9, 2) := by decide +kernel
set_option maxRecDepth 20000 in
theorem dL_holds_305 : decode cL_holds 305 = .ok (.iload 11, 2) := by decide +kernel
set_option maxRecDepth 20000 in
theorem dL_holds_307 : decode cL_holds 307 = .ok (.ishr, 1) := by decide +kernel
set_option maxRecDepth 20000 in
theorem dL_holds_308 : decode cL_holds 308 = .ok (.iconst 1, 1) := by decide +kernel
set_option maxRecDepth 20000 in
theorem dL_holds_309 : decode cL_holds 309 = .ok (.iand, 1) := by decide +kernel
set_option maxRecDepth 20000 in
theorem dL_holds_310 : decode cL_holds 310 = .ok (.iconst 1, 1) := by decide +kernel
set_option maxRecDepth 20000 in
theorem dL_holds_311 : decode cL_holds 311 = .ok (.if_icmp .ne 13, 3) := by decide +kernel
set_option maxRecDepth 20000 in
theorem dL_holds_314 : decode cL_holds 314 = .ok (.aload_n 0, 1) := by decide +kernel
set_option maxRecDepth 20000 in
theorem dL_holds_315 : decode cL_holds 315 = .ok (.iload 11, 2) := by decide +kernel
set_option maxRecDepth 20000 in
theorem dL_holds_317 : decode cL_holds 317 = .ok (.iconst 0, 1) := by decide +kernel
set_option maxRecDepth 20000 in
theorem dL_holds_318 : decode cL_holds 318 = .ok (.invokevirtual 15, 3) := by decide +kernel
set_option maxRecDepth 20000 in
theorem dL_holds_321 : decode cL_holds 321 = .ok (.goto 4, 3) := by decide +kernel
set_option maxRecDepth 20000 in
theorem dL_holds_324 : decode cL_holds 324 = .ok (.iconst 0, 1) := by decide +kernel
set_option maxRecDepth 20000 in
theorem dL_holds_325 : decode cL_holds 325 = .ok (.iadd, 1) := by decide +kernel
set_option maxRecDepth 20000 in
theorem dL_holds_326 : decode cL_holds 326 = .ok (.istore 10, 2) := by decide +kernel
set_option maxRecDepth 20000 in
theorem dL_holds_328 : decode cL_holds 328 = .ok (.iinc 11 1, 3) := by decide +kernel
set_option maxRecDepth 20000 in
theorem dL_holds_331 : decode cL_holds 331 = .ok (.goto (-37), 3) := by decide +kernel
set_option maxRecDepth 20000 in
theorem dL_holds_334 : decode cL_holds 334 = .ok (.iload 10, 2) := by decide +kernel
set_option maxRecDepth 20000 in
theorem dL_holds_336 : decode cL_holds 336 = .ok (.ifCond .eq 13, 3) := by decide +kernel
set_option maxRecDepth 20000 in
theorem dL_holds_339 : decode cL_holds 339 = .ok (.iload_n 1, 1) := by decide +kernel
set_option maxRecDepth 20000 in
theorem dL_holds_340 : decode cL_holds 340 = .ok (.bipush 7, 2) := by decide +kernel
set_option maxRecDepth 20000 in
theorem dL_holds_342 : decode cL_holds 342 = .ok (.ishr, 1) := by decide +kernel
set_option maxRecDepth 20000 in
theorem dL_holds_343 : decode cL_holds 343 = .ok (.bipush 7, 2) := by decide +kernel
set_option maxRecDepth 20000 in
theorem dL_holds_345 : decode cL_holds 345 = .ok (.iand, 1) := by decide +kernel
set_option maxRecDepth 20000 in
theorem dL_holds_346 : decode cL_holds 346 = .ok (.ifCond .ne 18, 3) := by decide +kernel
set_option maxRecDepth 20000 in
theorem dL_holds_349 : decode cL_holds 349 = .ok (.iconst 1, 1) := by decide +kernel
set_option maxRecDepth 20000 in
theorem dL_holds_350 : decode cL_holds 350 = .ok (.iload_n 1, 1) := by decide +kernel
set_option maxRecDepth 20000 in
theorem dL_holds_351 : decode cL_holds 351 = .ok (.bipush 7, 2) := by decide +kernel
set_option maxRecDepth 20000 in
theorem dL_holds_353 : decode cL_holds 353 = .ok (.ishr, 1) := by decide +kernel
set_option maxRecDepth 20000 in
theorem dL_holds_354 : decode cL_holds 354 = .ok (.sipush 2000, 3) := by decide +kernel
set_option maxRecDepth 20000 in
theorem dL_holds_357 : decode cL_holds 357 = .ok (.invokestatic 9, 3) := by decide +kernel
set_option maxRecDepth 20000 in
theorem dL_holds_360 : decode cL_holds 360 = .ok (.iadd, 1) := by decide +kernel
set_option maxRecDepth 20000 in
theorem dL_holds_361 : decode cL_holds 361 = .ok (.goto 5, 3) := by decide +kernel
set_option maxRecDepth 20000 in
theorem dL_holds_364 : decode cL_holds 364 = .ok (.iload 10, 2) := by decide +kernel
set_option maxRecDepth 20000 in
theorem dL_holds_366 : decode cL_holds 366 = .ok (.istore 10, 2) := by decide +kernel
set_option maxRecDepth 20000 in
theorem dL_holds_368 : decode cL_holds 368 = .ok (.iconst (-1), 1) := by decide +kernel
set_option maxRecDepth 20000 in
theorem dL_holds_369 : decode cL_holds 369 = .ok (.istore 11, 2) := by decide +kernel
set_option maxRecDepth 20000 in
theorem dL_holds_371 : decode cL_holds 371 = .ok (.iconst 1, 1) := by decide +kernel
set_option maxRecDepth 20000 in
theorem dL_holds_372 : decode cL_holds 372 = .ok (.istore 12, 2) := by decide +kernel
set_option maxRecDepth 20000 in
theorem dL_holds_374 : decode cL_holds 374 = .ok (.iload 12, 2) := by decide +kernel
set_option maxRecDepth 20000 in
theorem dL_holds_376 : decode cL_holds 376 = .ok (.sipush 128, 3) := by decide +kernel
set_option maxRecDepth 20000 in
theorem dL_holds_379 : decode cL_holds 379 = .ok (.if_icmp .ge 90, 3) := by decide +kernel
set_option maxRecDepth 20000 in
theorem dL_holds_382 : decode cL_holds 382 = .ok (.iconst 0, 1) := by decide +kernel
set_option maxRecDepth 20000 in
theorem dL_holds_383 : decode cL_holds 383 = .ok (.istore 13, 2) := by decide +kernel
set_option maxRecDepth 20000 in
theorem dL_holds_385 : decode cL_holds 385 = .ok (.iconst 0, 1) := by decide +kernel
set_option maxRecDepth 20000 in
theorem dL_holds_386 : decode cL_holds 386 = .ok (.istore 14, 2) := by decide +kernel
set_option maxRecDepth 20000 in
theorem dL_holds_388 : decode cL_holds 388 = .ok (.iload 14, 2) := by decide +kernel
set_option maxRecDepth 20000 in
theorem dL_holds_390 : decode cL_holds 390 = .ok (.bipush 7, 2) := by decide +kernel
set_option maxRecDepth 20000 in
theorem dL_holds_392 : decode cL_holds 392 = .ok (.if_icmp .ge 36, 3) := by decide +kernel
set_option maxRecDepth 20000 in
theorem dL_holds_395 : decode cL_holds 395 = .ok (.iload 13, 2) := by decide +kernel
set_option maxRecDepth 20000 in
theorem dL_holds_397 : decode cL_holds 397 = .ok (.iload 12, 2) := by decide +kernel
set_option maxRecDepth 20000 in
theorem dL_holds_399 : decode cL_holds 399 = .ok (.iload 14, 2) := by decide +kernel
set_option maxRecDepth 20000 in
theorem dL_holds_401 : decode cL_holds 401 = .ok (.ishr, 1) := by decide +kernel
set_option maxRecDepth 20000 in
theorem dL_holds_402 : decode cL_holds 402 = .ok (.iconst 1, 1) := by decide +kernel
set_option maxRecDepth 20000 in
theorem dL_holds_403 : decode cL_holds 403 = .ok (.iand, 1) := by decide +kernel
set_option maxRecDepth 20000 in
theorem dL_holds_404 : decode cL_holds 404 = .ok (.iconst 1, 1) := by decide +kernel
set_option maxRecDepth 20000 in
theorem dL_holds_405 : decode cL_holds 405 = .ok (.if_icmp .ne 13, 3) := by decide +kernel
set_option maxRecDepth 20000 in
theorem dL_holds_408 : decode cL_holds 408 = .ok (.aload_n 0, 1) := by decide +kernel
set_option maxRecDepth 20000 in
theorem dL_holds_409 : decode cL_holds 409 = .ok (.iload 14, 2) := by decide +kernel
set_option maxRecDepth 20000 in
theorem dL_holds_411 : decode cL_holds 411 = .ok (.iconst 0, 1) := by decide +kernel
set_option maxRecDepth 20000 in
theorem dL_holds_412 : decode cL_holds 412 = .ok (.invokevirtual 15, 3) := by decide +kernel
set_option maxRecDepth 20000 in
theorem dL_holds_415 : decode cL_holds 415 = .ok (.goto 4, 3) := by decide +kernel
set_option maxRecDepth 20000 in
theorem dL_holds_418 : decode cL_holds 418 = .ok (.iconst 0, 1) := by decide +kernel
set_option maxRecDepth 20000 in
theorem dL_holds_419 : decode cL_holds 419 = .ok (.iadd, 1) := by decide +kernel
set_option maxRecDepth 20000 in
theorem dL_holds_420 : decode cL_holds 420 = .ok (.istore 13, 2) := by decide +kernel
set_option maxRecDepth 20000 in
theorem dL_holds_422 : decode cL_holds 422 = .ok (.iinc 14 1, 3) := by decide +kernel
set_option maxRecDepth 20000 in
theorem dL_holds_425 : decode cL_holds 425 = .ok (.goto (-37), 3) := by decide +kernel
set_option maxRecDepth 20000 in
theorem dL_holds_428 : decode cL_holds 428 = .ok (.iload 13, 2) := by decide +kernel
set_option maxRecDepth 20000 in
theorem dL_holds_430 : decode cL_holds 430 = .ok (.iload 10, 2) := by decide +kernel
set_option maxRecDepth 20000 in
theorem dL_holds_432 : decode cL_holds 432 = .ok (.if_icmp .ne 27, 3) := by decide +kernel
set_option maxRecDepth 20000 in
theorem dL_holds_435 : decode cL_holds 435 = .ok (.iload 11, 2) := by decide +kernel
set_option maxRecDepth 20000 in
theorem dL_holds_437 : decode cL_holds 437 = .ok (.iconst (-1), 1) := by decide +kernel
set_option maxRecDepth 20000 in
theorem dL_holds_438 : decode cL_holds 438 = .ok (.if_icmp .eq 16, 3) := by decide +kernel
set_option maxRecDepth 20000 in
theorem dL_holds_441 : decode cL_holds 441 = .ok (.iload 12, 2) := by decide +kernel
set_option maxRecDepth 20000 in
theorem dL_holds_443 : decode cL_holds 443 = .ok (.invokestatic 81, 3) := by decide +kernel
set_option maxRecDepth 20000 in
theorem dL_holds_446 : decode cL_holds 446 = .ok (.iload 11, 2) := by decide +kernel
set_option maxRecDepth 20000 in
theorem dL_holds_448 : decode cL_holds 448 = .ok (.invokestatic 81, 3) := by decide +kernel
set_option maxRecDepth 20000 in
theorem dL_holds_451 : decode cL_holds 451 = .ok (.if_icmp .ge 8, 3) := by decide +kernel
set_option maxRecDepth 20000 in
theorem dL_holds_454 : decode cL_holds 454 = .ok (.iload 12, 2) := by decide +kernel
set_option maxRecDepth 20000 in
theorem dL_holds_456 : decode cL_holds 456 = .ok (.goto 5, 3) := by decide +kernel
set_option maxRecDepth 20000 in
theorem dL_holds_459 : decode cL_holds 459 = .ok (.iload 11, 2) := by decide +kernel
set_option maxRecDepth 20000 in
theorem dL_holds_461 : decode cL_holds 461 = .ok (.istore 11, 2) := by decide +kernel
set_option maxRecDepth 20000 in
theorem dL_holds_463 : decode cL_holds 463 = .ok (.iinc 12 1, 3) := by decide +kernel
set_option maxRecDepth 20000 in
theorem dL_holds_466 : decode cL_holds 466 = .ok (.goto (-92), 3) := by decide +kernel
set_option maxRecDepth 20000 in
theorem dL_holds_469 : decode cL_holds 469 = .ok (.iload 8, 2) := by decide +kernel
set_option maxRecDepth 20000 in
theorem dL_holds_471 : decode cL_holds 471 = .ok (.ifCond .eq 31, 3) := by decide +kernel
set_option maxRecDepth 20000 in
theorem dL_holds_474 : decode cL_holds 474 = .ok (.aload_n 0, 1) := by decide +kernel
set_option maxRecDepth 20000 in
theorem dL_holds_475 : decode cL_holds 475 = .ok (.iload 10, 2) := by decide +kernel
set_option maxRecDepth 20000 in
theorem dL_holds_477 : decode cL_holds 477 = .ok (.iconst 0, 1) := by decide +kernel
set_option maxRecDepth 20000 in
theorem dL_holds_478 : decode cL_holds 478 = .ok (.invokevirtual 84, 3) := by decide +kernel
set_option maxRecDepth 20000 in
theorem dL_holds_481 : decode cL_holds 481 = .ok (.iload 11, 2) := by decide +kernel
set_option maxRecDepth 20000 in
theorem dL_holds_483 : decode cL_holds 483 = .ok (.if_icmp .ne 19, 3) := by decide +kernel
set_option maxRecDepth 20000 in
theorem dL_holds_486 : decode cL_holds 486 = .ok (.aload_n 0, 1) := by decide +kernel
set_option maxRecDepth 20000 in
theorem dL_holds_487 : decode cL_holds 487 = .ok (.iload 10, 2) := by decide +kernel
set_option maxRecDepth 20000 in
theorem dL_holds_489 : decode cL_holds 489 = .ok (.iconst 1, 1) := by decide +kernel
set_option maxRecDepth 20000 in
theorem dL_holds_490 : decode cL_holds 490 = .ok (.invokevirtual 84, 3) := by decide +kernel
set_option maxRecDepth 20000 in
theorem dL_holds_493 : decode cL_holds 493 = .ok (.iload 11, 2) := by decide +kernel
set_option maxRecDepth 20000 in
theorem dL_holds_495 : decode cL_holds 495 = .ok (.if_icmp .ne 7, 3) := by decide +kernel
set_option maxRecDepth 20000 in
theorem dL_holds_498 : decode cL_holds 498 = .ok (.iconst 1, 1) := by decide +kernel
set_option maxRecDepth 20000 in
theorem dL_holds_499 : decode cL_holds 499 = .ok (.goto 4, 3) := by decide +kernel
set_option maxRecDepth 20000 in
theorem dL_holds_502 : decode cL_holds 502 = .ok (.iconst 0, 1) := by decide +kernel
set_option maxRecDepth 20000 in
theorem dL_holds_503 : decode cL_holds 503 = .ok (.ireturn, 1) := by decide +kernel
theorem dL_bits_0 : decode cL_bits 0 = .ok (.iconst 0, 1) := by decide +kernel
theorem dL_bits_1 : decode cL_bits 1 = .ok (.istore_n 1, 1) := by decide +kernel
theorem dL_bits_2 : decode cL_bits 2 = .ok (.iconst 0, 1) := by decide +kernel
theorem dL_bits_3 : decode cL_bits 3 = .ok (.istore_n 2, 1) := by decide +kernel
theorem dL_bits_4 : decode cL_bits 4 = .ok (.iload_n 2, 1) := by decide +kernel
theorem dL_bits_5 : decode cL_bits 5 = .ok (.bipush 7, 2) := by decide +kernel
theorem dL_bits_7 : decode cL_bits 7 = .ok (.if_icmp .ge 17, 3) := by decide +kernel
theorem dL_bits_10 : decode cL_bits 10 = .ok (.iload_n 1, 1) := by decide +kernel
theorem dL_bits_11 : decode cL_bits 11 = .ok (.iload_n 0, 1) := by decide +kernel
theorem dL_bits_12 : decode cL_bits 12 = .ok (.iload_n 2, 1) := by decide +kernel
theorem dL_bits_13 : decode cL_bits 13 = .ok (.ishr, 1) := by decide +kernel
theorem dL_bits_14 : decode cL_bits 14 = .ok (.iconst 1, 1) := by decide +kernel
theorem dL_bits_15 : decode cL_bits 15 = .ok (.iand, 1) := by decide +kernel
theorem dL_bits_16 : decode cL_bits 16 = .ok (.iadd, 1) := by decide +kernel
theorem dL_bits_17 : decode cL_bits 17 = .ok (.istore_n 1, 1) := by decide +kernel
theorem dL_bits_18 : decode cL_bits 18 = .ok (.iinc 2 1, 3) := by decide +kernel
theorem dL_bits_21 : decode cL_bits 21 = .ok (.goto (-17), 3) := by decide +kernel
theorem dL_bits_24 : decode cL_bits 24 = .ok (.iload_n 1, 1) := by decide +kernel
theorem dL_bits_25 : decode cL_bits 25 = .ok (.ireturn, 1) := by decide +kernel
