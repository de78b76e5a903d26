theorem dX0_init_0 : decode cX0_init 0 = .ok (.aload_n 0, 1) := by decide +kernel
theorem dX0_init_1 : decode cX0_init 1 = .ok (.invokespecial 3, 3) := by decide +kernel
theorem dX0_init_4 : decode cX0_init 4 = .ok (.aload_n 0, 1) := by decide +kernel
theorem dX0_init_5 : decode cX0_init 5 = .ok (.bipush 6, 2) := by decide +kernel
theorem dX0_init_7 : decode cX0_init 7 = .ok (.newarray .int, 2) := by decide +kernel
theorem dX0_init_9 : decode cX0_init 9 = .ok (.putfield 9, 3) := by decide +kernel
theorem dX0_init_12 : decode cX0_init 12 = .ok (.aload_n 0, 1) := by decide +kernel
theorem dX0_init_13 : decode cX0_init 13 = .ok (.bipush 6, 2) := by decide +kernel
theorem dX0_init_15 : decode cX0_init 15 = .ok (.newarray .int, 2) := by decide +kernel
theorem dX0_init_17 : decode cX0_init 17 = .ok (.putfield 15, 3) := by decide +kernel
theorem dX0_init_20 : decode cX0_init 20 = .ok (.aload_n 0, 1) := by decide +kernel
theorem dX0_init_21 : decode cX0_init 21 = .ok (.bipush 16, 2) := by decide +kernel
theorem dX0_init_23 : decode cX0_init 23 = .ok (.newarray .int, 2) := by decide +kernel
theorem dX0_init_25 : decode cX0_init 25 = .ok (.putfield 18, 3) := by decide +kernel
theorem dX0_init_28 : decode cX0_init 28 = .ok (.aload_n 0, 1) := by decide +kernel
theorem dX0_init_29 : decode cX0_init 29 = .ok (.iconst 0, 1) := by decide +kernel
theorem dX0_init_30 : decode cX0_init 30 = .ok (.putfield 21, 3) := by decide +kernel
theorem dX0_init_33 : decode cX0_init 33 = .ok (.aload_n 0, 1) := by decide +kernel
theorem dX0_init_34 : decode cX0_init 34 = .ok (.iconst 0, 1) := by decide +kernel
theorem dX0_init_35 : decode cX0_init 35 = .ok (.putfield 25, 3) := by decide +kernel
theorem dX0_init_38 : decode cX0_init 38 = .ok (.aload_n 0, 1) := by decide +kernel
theorem dX0_init_39 : decode cX0_init 39 = .ok (.iconst 0, 1) := by decide +kernel
theorem dX0_init_40 : decode cX0_init 40 = .ok (.putfield 28, 3) := by decide +kernel
theorem dX0_init_43 : decode cX0_init 43 = .ok (.return_, 1) := by decide +kernel
theorem dX0_copyFrom_0 : decode cX0_copyFrom 0 = .ok (.aload_n 1, 1) := by decide +kernel
theorem dX0_copyFrom_1 : decode cX0_copyFrom 1 = .ok (.getfield 9, 3) := by decide +kernel
theorem dX0_copyFrom_4 : decode cX0_copyFrom 4 = .ok (.iconst 0, 1) := by decide +kernel
theorem dX0_copyFrom_5 : decode cX0_copyFrom 5 = .ok (.aload_n 0, 1) := by decide +kernel
theorem dX0_copyFrom_6 : decode cX0_copyFrom 6 = .ok (.getfield 9, 3) := by decide +kernel
theorem dX0_copyFrom_9 : decode cX0_copyFrom 9 = .ok (.iconst 0, 1) := by decide +kernel
theorem dX0_copyFrom_10 : decode cX0_copyFrom 10 = .ok (.bipush 6, 2) := by decide +kernel
theorem dX0_copyFrom_12 : decode cX0_copyFrom 12 = .ok (.invokestatic 31, 3) := by decide +kernel
theorem dX0_copyFrom_15 : decode cX0_copyFrom 15 = .ok (.aload_n 1, 1) := by decide +kernel
theorem dX0_copyFrom_16 : decode cX0_copyFrom 16 = .ok (.getfield 15, 3) := by decide +kernel
theorem dX0_copyFrom_19 : decode cX0_copyFrom 19 = .ok (.iconst 0, 1) := by decide +kernel
theorem dX0_copyFrom_20 : decode cX0_copyFrom 20 = .ok (.aload_n 0, 1) := by decide +kernel
theorem dX0_copyFrom_21 : decode cX0_copyFrom 21 = .ok (.getfield 15, 3) := by decide +kernel
theorem dX0_copyFrom_24 : decode cX0_copyFrom 24 = .ok (.iconst 0, 1) := by decide +kernel
theorem dX0_copyFrom_25 : decode cX0_copyFrom 25 = .ok (.bipush 6, 2) := by decide +kernel
theorem dX0_copyFrom_27 : decode cX0_copyFrom 27 = .ok (.invokestatic 31, 3) := by decide +kernel
theorem dX0_copyFrom_30 : decode cX0_copyFrom 30 = .ok (.aload_n 1, 1) := by decide +kernel
theorem dX0_copyFrom_31 : decode cX0_copyFrom 31 = .ok (.getfield 18, 3) := by decide +kernel
theorem dX0_copyFrom_34 : decode cX0_copyFrom 34 = .ok (.iconst 0, 1) := by decide +kernel
theorem dX0_copyFrom_35 : decode cX0_copyFrom 35 = .ok (.aload_n 0, 1) := by decide +kernel
theorem dX0_copyFrom_36 : decode cX0_copyFrom 36 = .ok (.getfield 18, 3) := by decide +kernel
theorem dX0_copyFrom_39 : decode cX0_copyFrom 39 = .ok (.iconst 0, 1) := by decide +kernel
theorem dX0_copyFrom_40 : decode cX0_copyFrom 40 = .ok (.bipush 16, 2) := by decide +kernel
theorem dX0_copyFrom_42 : decode cX0_copyFrom 42 = .ok (.invokestatic 31, 3) := by decide +kernel
theorem dX0_copyFrom_45 : decode cX0_copyFrom 45 = .ok (.aload_n 0, 1) := by decide +kernel
theorem dX0_copyFrom_46 : decode cX0_copyFrom 46 = .ok (.aload_n 1, 1) := by decide +kernel
theorem dX0_copyFrom_47 : decode cX0_copyFrom 47 = .ok (.getfield 21, 3) := by decide +kernel
theorem dX0_copyFrom_50 : decode cX0_copyFrom 50 = .ok (.putfield 21, 3) := by decide +kernel
theorem dX0_copyFrom_53 : decode cX0_copyFrom 53 = .ok (.aload_n 0, 1) := by decide +kernel
theorem dX0_copyFrom_54 : decode cX0_copyFrom 54 = .ok (.aload_n 1, 1) := by decide +kernel
theorem dX0_copyFrom_55 : decode cX0_copyFrom 55 = .ok (.getfield 25, 3) := by decide +kernel
theorem dX0_copyFrom_58 : decode cX0_copyFrom 58 = .ok (.putfield 25, 3) := by decide +kernel
theorem dX0_copyFrom_61 : decode cX0_copyFrom 61 = .ok (.aload_n 0, 1) := by decide +kernel
theorem dX0_copyFrom_62 : decode cX0_copyFrom 62 = .ok (.aload_n 1, 1) := by decide +kernel
theorem dX0_copyFrom_63 : decode cX0_copyFrom 63 = .ok (.getfield 28, 3) := by decide +kernel
theorem dX0_copyFrom_66 : decode cX0_copyFrom 66 = .ok (.putfield 28, 3) := by decide +kernel
theorem dX0_copyFrom_69 : decode cX0_copyFrom 69 = .ok (.return_, 1) := by decide +kernel
theorem dX0_becomeNew_0 : decode cX0_becomeNew 0 = .ok (.iconst 0, 1) := by decide +kernel
theorem dX0_becomeNew_1 : decode cX0_becomeNew 1 = .ok (.istore_n 1, 1) := by decide +kernel
theorem dX0_becomeNew_2 : decode cX0_becomeNew 2 = .ok (.iload_n 1, 1) := by decide +kernel
theorem dX0_becomeNew_3 : decode cX0_becomeNew 3 = .ok (.bipush 6, 2) := by decide +kernel
theorem dX0_becomeNew_5 : decode cX0_becomeNew 5 = .ok (.if_icmp .ge 23, 3) := by decide +kernel
theorem dX0_becomeNew_8 : decode cX0_becomeNew 8 = .ok (.aload_n 0, 1) := by decide +kernel
theorem dX0_becomeNew_9 : decode cX0_becomeNew 9 = .ok (.getfield 9, 3) := by decide +kernel
theorem dX0_becomeNew_12 : decode cX0_becomeNew 12 = .ok (.iload_n 1, 1) := by decide +kernel
theorem dX0_becomeNew_13 : decode cX0_becomeNew 13 = .ok (.iconst 0, 1) := by decide +kernel
theorem dX0_becomeNew_14 : decode cX0_becomeNew 14 = .ok (.iastore, 1) := by decide +kernel
theorem dX0_becomeNew_15 : decode cX0_becomeNew 15 = .ok (.aload_n 0, 1) := by decide +kernel
theorem dX0_becomeNew_16 : decode cX0_becomeNew 16 = .ok (.getfield 15, 3) := by decide +kernel
theorem dX0_becomeNew_19 : decode cX0_becomeNew 19 = .ok (.iload_n 1, 1) := by decide +kernel
theorem dX0_becomeNew_20 : decode cX0_becomeNew 20 = .ok (.iconst 0, 1) := by decide +kernel
theorem dX0_becomeNew_21 : decode cX0_becomeNew 21 = .ok (.iastore, 1) := by decide +kernel
theorem dX0_becomeNew_22 : decode cX0_becomeNew 22 = .ok (.iinc 1 1, 3) := by decide +kernel
theorem dX0_becomeNew_25 : decode cX0_becomeNew 25 = .ok (.goto (-23), 3) := by decide +kernel
theorem dX0_becomeNew_28 : decode cX0_becomeNew 28 = .ok (.aload_n 0, 1) := by decide +kernel
theorem dX0_becomeNew_29 : decode cX0_becomeNew 29 = .ok (.iconst 0, 1) := by decide +kernel
theorem dX0_becomeNew_30 : decode cX0_becomeNew 30 = .ok (.putfield 21, 3) := by decide +kernel
theorem dX0_becomeNew_33 : decode cX0_becomeNew 33 = .ok (.aload_n 0, 1) := by decide +kernel
theorem dX0_becomeNew_34 : decode cX0_becomeNew 34 = .ok (.iconst 0, 1) := by decide +kernel
theorem dX0_becomeNew_35 : decode cX0_becomeNew 35 = .ok (.putfield 28, 3) := by decide +kernel
theorem dX0_becomeNew_38 : decode cX0_becomeNew 38 = .ok (.return_, 1) := by decide +kernel
theorem dX0_open_0 : decode cX0_open 0 = .ok (.aload_n 0, 1) := by decide +kernel
theorem dX0_open_1 : decode cX0_open 1 = .ok (.getfield 9, 3) := by decide +kernel
theorem dX0_open_4 : decode cX0_open 4 = .ok (.iload_n 1, 1) := by decide +kernel
theorem dX0_open_5 : decode cX0_open 5 = .ok (.iaload, 1) := by decide +kernel
theorem dX0_open_6 : decode cX0_open 6 = .ok (.bipush 10, 2) := by decide +kernel
theorem dX0_open_8 : decode cX0_open 8 = .ok (.aload_n 0, 1) := by decide +kernel
theorem dX0_open_9 : decode cX0_open 9 = .ok (.getfield 15, 3) := by decide +kernel
theorem dX0_open_12 : decode cX0_open 12 = .ok (.iload_n 1, 1) := by decide +kernel
theorem dX0_open_13 : decode cX0_open 13 = .ok (.iaload, 1) := by decide +kernel
theorem dX0_open_14 : decode cX0_open 14 = .ok (.imul, 1) := by decide +kernel
theorem dX0_open_15 : decode cX0_open 15 = .ok (.isub, 1) := by decide +kernel
theorem dX0_open_16 : decode cX0_open 16 = .ok (.ireturn, 1) := by decide +kernel
theorem dX0_tiesAt_0 : decode cX0_tiesAt 0 = .ok (.aload_n 0, 1) := by decide +kernel
theorem dX0_tiesAt_1 : decode cX0_tiesAt 1 = .ok (.getfield 9, 3) := by decide +kernel
theorem dX0_tiesAt_4 : decode cX0_tiesAt 4 = .ok (.iload_n 1, 1) := by decide +kernel
theorem dX0_tiesAt_5 : decode cX0_tiesAt 5 = .ok (.iaload, 1) := by decide +kernel
theorem dX0_tiesAt_6 : decode cX0_tiesAt 6 = .ok (.aload_n 0, 1) := by decide +kernel
theorem dX0_tiesAt_7 : decode cX0_tiesAt 7 = .ok (.getfield 15, 3) := by decide +kernel
theorem dX0_tiesAt_10 : decode cX0_tiesAt 10 = .ok (.iload_n 1, 1) := by decide +kernel
theorem dX0_tiesAt_11 : decode cX0_tiesAt 11 = .ok (.iaload, 1) := by decide +kernel
theorem dX0_tiesAt_12 : decode cX0_tiesAt 12 = .ok (.iadd, 1) := by decide +kernel
theorem dX0_tiesAt_13 : decode cX0_tiesAt 13 = .ok (.ireturn, 1) := by decide +kernel
theorem dX0_told_0 : decode cX0_told 0 = .ok (.iconst 0, 1) := by decide +kernel
theorem dX0_told_1 : decode cX0_told 1 = .ok (.istore_n 1, 1) := by decide +kernel
theorem dX0_told_2 : decode cX0_told 2 = .ok (.iconst 5, 1) := by decide +kernel
theorem dX0_told_3 : decode cX0_told 3 = .ok (.istore_n 2, 1) := by decide +kernel
theorem dX0_told_4 : decode cX0_told 4 = .ok (.iload_n 2, 1) := by decide +kernel
theorem dX0_told_5 : decode cX0_told 5 = .ok (.ifCond .lt 20, 3) := by decide +kernel
theorem dX0_told_8 : decode cX0_told 8 = .ok (.bipush 10, 2) := by decide +kernel
theorem dX0_told_10 : decode cX0_told 10 = .ok (.iload_n 1, 1) := by decide +kernel
theorem dX0_told_11 : decode cX0_told 11 = .ok (.imul, 1) := by decide +kernel
theorem dX0_told_12 : decode cX0_told 12 = .ok (.aload_n 0, 1) := by decide +kernel
theorem dX0_told_13 : decode cX0_told 13 = .ok (.iload_n 2, 1) := by decide +kernel
theorem dX0_told_14 : decode cX0_told 14 = .ok (.invokevirtual 37, 3) := by decide +kernel
theorem dX0_told_17 : decode cX0_told 17 = .ok (.iadd, 1) := by decide +kernel
theorem dX0_told_18 : decode cX0_told 18 = .ok (.istore_n 1, 1) := by decide +kernel
theorem dX0_told_19 : decode cX0_told 19 = .ok (.iinc 2 (-1), 3) := by decide +kernel
theorem dX0_told_22 : decode cX0_told 22 = .ok (.goto (-18), 3) := by decide +kernel
theorem dX0_told_25 : decode cX0_told 25 = .ok (.iload_n 1, 1) := by decide +kernel
theorem dX0_told_26 : decode cX0_told 26 = .ok (.ireturn, 1) := by decide +kernel
theorem dX0_partsTogether_0 : decode cX0_partsTogether 0 = .ok (.aload_n 0, 1) := by decide +kernel
theorem dX0_partsTogether_1 : decode cX0_partsTogether 1 = .ok (.getfield 18, 3) := by decide +kernel
theorem dX0_partsTogether_4 : decode cX0_partsTogether 4 = .ok (.aload_n 0, 1) := by decide +kernel
theorem dX0_partsTogether_5 : decode cX0_partsTogether 5 = .ok (.getfield 21, 3) := by decide +kernel
theorem dX0_partsTogether_8 : decode cX0_partsTogether 8 = .ok (.invokestatic 41, 3) := by decide +kernel
theorem dX0_partsTogether_11 : decode cX0_partsTogether 11 = .ok (.ireturn, 1) := by decide +kernel
theorem dX0_lack_0 : decode cX0_lack 0 = .ok (.aload_n 0, 1) := by decide +kernel
theorem dX0_lack_1 : decode cX0_lack 1 = .ok (.invokevirtual 45, 3) := by decide +kernel
theorem dX0_lack_4 : decode cX0_lack 4 = .ok (.aload_n 0, 1) := by decide +kernel
theorem dX0_lack_5 : decode cX0_lack 5 = .ok (.invokevirtual 49, 3) := by decide +kernel
theorem dX0_lack_8 : decode cX0_lack 8 = .ok (.isub, 1) := by decide +kernel
theorem dX0_lack_9 : decode cX0_lack 9 = .ok (.ireturn, 1) := by decide +kernel
theorem dX0_allKnots_0 : decode cX0_allKnots 0 = .ok (.aload_n 0, 1) := by decide +kernel
theorem dX0_allKnots_1 : decode cX0_allKnots 1 = .ok (.getfield 9, 3) := by decide +kernel
theorem dX0_allKnots_4 : decode cX0_allKnots 4 = .ok (.bipush 6, 2) := by decide +kernel
theorem dX0_allKnots_6 : decode cX0_allKnots 6 = .ok (.invokestatic 41, 3) := by decide +kernel
theorem dX0_allKnots_9 : decode cX0_allKnots 9 = .ok (.ireturn, 1) := by decide +kernel
theorem dX0_allLoops_0 : decode cX0_allLoops 0 = .ok (.aload_n 0, 1) := by decide +kernel
theorem dX0_allLoops_1 : decode cX0_allLoops 1 = .ok (.getfield 15, 3) := by decide +kernel
theorem dX0_allLoops_4 : decode cX0_allLoops 4 = .ok (.bipush 6, 2) := by decide +kernel
theorem dX0_allLoops_6 : decode cX0_allLoops 6 = .ok (.invokestatic 41, 3) := by decide +kernel
theorem dX0_allLoops_9 : decode cX0_allLoops 9 = .ok (.ireturn, 1) := by decide +kernel
theorem dX0_ties_0 : decode cX0_ties 0 = .ok (.aload_n 0, 1) := by decide +kernel
theorem dX0_ties_1 : decode cX0_ties 1 = .ok (.invokevirtual 52, 3) := by decide +kernel
theorem dX0_ties_4 : decode cX0_ties 4 = .ok (.aload_n 0, 1) := by decide +kernel
theorem dX0_ties_5 : decode cX0_ties 5 = .ok (.invokevirtual 55, 3) := by decide +kernel
theorem dX0_ties_8 : decode cX0_ties 8 = .ok (.iadd, 1) := by decide +kernel
theorem dX0_ties_9 : decode cX0_ties 9 = .ok (.ireturn, 1) := by decide +kernel
theorem dX0_refusal_0 : decode cX0_refusal 0 = .ok (.aload_n 0, 1) := by decide +kernel
theorem dX0_refusal_1 : decode cX0_refusal 1 = .ok (.invokevirtual 49, 3) := by decide +kernel
theorem dX0_refusal_4 : decode cX0_refusal 4 = .ok (.iload_n 1, 1) := by decide +kernel
theorem dX0_refusal_5 : decode cX0_refusal 5 = .ok (.iadd, 1) := by decide +kernel
theorem dX0_refusal_6 : decode cX0_refusal 6 = .ok (.ldc 58, 2) := by decide +kernel
theorem dX0_refusal_8 : decode cX0_refusal 8 = .ok (.if_icmp .le 5, 3) := by decide +kernel
theorem dX0_refusal_11 : decode cX0_refusal 11 = .ok (.iconst 1, 1) := by decide +kernel
theorem dX0_refusal_12 : decode cX0_refusal 12 = .ok (.ireturn, 1) := by decide +kernel
theorem dX0_refusal_13 : decode cX0_refusal 13 = .ok (.iload_n 1, 1) := by decide +kernel
theorem dX0_refusal_14 : decode cX0_refusal 14 = .ok (.istore_n 3, 1) := by decide +kernel
theorem dX0_refusal_15 : decode cX0_refusal 15 = .ok (.iconst 0, 1) := by decide +kernel
theorem dX0_refusal_16 : decode cX0_refusal 16 = .ok (.istore 4, 2) := by decide +kernel
theorem dX0_refusal_18 : decode cX0_refusal 18 = .ok (.iconst 0, 1) := by decide +kernel
theorem dX0_refusal_19 : decode cX0_refusal 19 = .ok (.istore 5, 2) := by decide +kernel
theorem dX0_refusal_21 : decode cX0_refusal 21 = .ok (.iload 5, 2) := by decide +kernel
theorem dX0_refusal_23 : decode cX0_refusal 23 = .ok (.bipush 6, 2) := by decide +kernel
theorem dX0_refusal_25 : decode cX0_refusal 25 = .ok (.if_icmp .ge 64, 3) := by decide +kernel
theorem dX0_refusal_28 : decode cX0_refusal 28 = .ok (.iload_n 3, 1) := by decide +kernel
theorem dX0_refusal_29 : decode cX0_refusal 29 = .ok (.bipush 10, 2) := by decide +kernel
theorem dX0_refusal_31 : decode cX0_refusal 31 = .ok (.irem, 1) := by decide +kernel
theorem dX0_refusal_32 : decode cX0_refusal 32 = .ok (.iload 4, 2) := by decide +kernel
theorem dX0_refusal_34 : decode cX0_refusal 34 = .ok (.iadd, 1) := by decide +kernel
theorem dX0_refusal_35 : decode cX0_refusal 35 = .ok (.istore 6, 2) := by decide +kernel
theorem dX0_refusal_37 : decode cX0_refusal 37 = .ok (.aload_n 0, 1) := by decide +kernel
theorem dX0_refusal_38 : decode cX0_refusal 38 = .ok (.iload 5, 2) := by decide +kernel
theorem dX0_refusal_40 : decode cX0_refusal 40 = .ok (.iload 6, 2) := by decide +kernel
theorem dX0_refusal_42 : decode cX0_refusal 42 = .ok (.invokevirtual 59, 3) := by decide +kernel
theorem dX0_refusal_45 : decode cX0_refusal 45 = .ok (.istore 7, 2) := by decide +kernel
theorem dX0_refusal_47 : decode cX0_refusal 47 = .ok (.iload 6, 2) := by decide +kernel
theorem dX0_refusal_49 : decode cX0_refusal 49 = .ok (.iload 7, 2) := by decide +kernel
theorem dX0_refusal_51 : decode cX0_refusal 51 = .ok (.iadd, 1) := by decide +kernel
theorem dX0_refusal_52 : decode cX0_refusal 52 = .ok (.istore 8, 2) := by decide +kernel
theorem dX0_refusal_54 : decode cX0_refusal 54 = .ok (.iload 8, 2) := by decide +kernel
theorem dX0_refusal_56 : decode cX0_refusal 56 = .ok (.ifCond .le 18, 3) := by decide +kernel
theorem dX0_refusal_59 : decode cX0_refusal 59 = .ok (.aload_n 0, 1) := by decide +kernel
theorem dX0_refusal_60 : decode cX0_refusal 60 = .ok (.iload 5, 2) := by decide +kernel
theorem dX0_refusal_62 : decode cX0_refusal 62 = .ok (.invokevirtual 63, 3) := by decide +kernel
theorem dX0_refusal_65 : decode cX0_refusal 65 = .ok (.iload 8, 2) := by decide +kernel
theorem dX0_refusal_67 : decode cX0_refusal 67 = .ok (.iadd, 1) := by decide +kernel
theorem dX0_refusal_68 : decode cX0_refusal 68 = .ok (.iload_n 2, 1) := by decide +kernel
theorem dX0_refusal_69 : decode cX0_refusal 69 = .ok (.if_icmp .le 5, 3) := by decide +kernel
theorem dX0_refusal_72 : decode cX0_refusal 72 = .ok (.iconst 2, 1) := by decide +kernel
theorem dX0_refusal_73 : decode cX0_refusal 73 = .ok (.ireturn, 1) := by decide +kernel
theorem dX0_refusal_74 : decode cX0_refusal 74 = .ok (.iload_n 3, 1) := by decide +kernel
theorem dX0_refusal_75 : decode cX0_refusal 75 = .ok (.bipush 10, 2) := by decide +kernel
theorem dX0_refusal_77 : decode cX0_refusal 77 = .ok (.idiv, 1) := by decide +kernel
theorem dX0_refusal_78 : decode cX0_refusal 78 = .ok (.istore_n 3, 1) := by decide +kernel
theorem dX0_refusal_79 : decode cX0_refusal 79 = .ok (.iload 7, 2) := by decide +kernel
theorem dX0_refusal_81 : decode cX0_refusal 81 = .ok (.istore 4, 2) := by decide +kernel
theorem dX0_refusal_83 : decode cX0_refusal 83 = .ok (.iinc 5 1, 3) := by decide +kernel
theorem dX0_refusal_86 : decode cX0_refusal 86 = .ok (.goto (-65), 3) := by decide +kernel
theorem dX0_refusal_89 : decode cX0_refusal 89 = .ok (.iconst 0, 1) := by decide +kernel
theorem dX0_refusal_90 : decode cX0_refusal 90 = .ok (.ireturn, 1) := by decide +kernel
theorem dX0_refusalOfPart_0 : decode cX0_refusalOfPart 0 = .ok (.aload_n 0, 1) := by decide +kernel
theorem dX0_refusalOfPart_1 : decode cX0_refusalOfPart 1 = .ok (.getfield 21, 3) := by decide +kernel
theorem dX0_refusalOfPart_4 : decode cX0_refusalOfPart 4 = .ok (.bipush 16, 2) := by decide +kernel
theorem dX0_refusalOfPart_6 : decode cX0_refusalOfPart 6 = .ok (.if_icmp .lt 7, 3) := by decide +kernel
theorem dX0_refusalOfPart_9 : decode cX0_refusalOfPart 9 = .ok (.iconst 3, 1) := by decide +kernel
theorem dX0_refusalOfPart_10 : decode cX0_refusalOfPart 10 = .ok (.goto 9, 3) := by decide +kernel
theorem dX0_refusalOfPart_13 : decode cX0_refusalOfPart 13 = .ok (.aload_n 0, 1) := by decide +kernel
theorem dX0_refusalOfPart_14 : decode cX0_refusalOfPart 14 = .ok (.iload_n 1, 1) := by decide +kernel
theorem dX0_refusalOfPart_15 : decode cX0_refusalOfPart 15 = .ok (.iload_n 2, 1) := by decide +kernel
theorem dX0_refusalOfPart_16 : decode cX0_refusalOfPart 16 = .ok (.invokevirtual 66, 3) := by decide +kernel
theorem dX0_refusalOfPart_19 : decode cX0_refusalOfPart 19 = .ok (.ireturn, 1) := by decide +kernel
theorem dX0_tieKnots_0 : decode cX0_tieKnots 0 = .ok (.iload_n 1, 1) := by decide +kernel
theorem dX0_tieKnots_1 : decode cX0_tieKnots 1 = .ok (.istore_n 2, 1) := by decide +kernel
theorem dX0_tieKnots_2 : decode cX0_tieKnots 2 = .ok (.iconst 0, 1) := by decide +kernel
theorem dX0_tieKnots_3 : decode cX0_tieKnots 3 = .ok (.istore_n 3, 1) := by decide +kernel
theorem dX0_tieKnots_4 : decode cX0_tieKnots 4 = .ok (.iconst 0, 1) := by decide +kernel
theorem dX0_tieKnots_5 : decode cX0_tieKnots 5 = .ok (.istore 4, 2) := by decide +kernel
theorem dX0_tieKnots_7 : decode cX0_tieKnots 7 = .ok (.iload 4, 2) := by decide +kernel
theorem dX0_tieKnots_9 : decode cX0_tieKnots 9 = .ok (.bipush 6, 2) := by decide +kernel
theorem dX0_tieKnots_11 : decode cX0_tieKnots 11 = .ok (.if_icmp .ge 59, 3) := by decide +kernel
theorem dX0_tieKnots_14 : decode cX0_tieKnots 14 = .ok (.iload_n 2, 1) := by decide +kernel
theorem dX0_tieKnots_15 : decode cX0_tieKnots 15 = .ok (.bipush 10, 2) := by decide +kernel
theorem dX0_tieKnots_17 : decode cX0_tieKnots 17 = .ok (.irem, 1) := by decide +kernel
theorem dX0_tieKnots_18 : decode cX0_tieKnots 18 = .ok (.iload_n 3, 1) := by decide +kernel
theorem dX0_tieKnots_19 : decode cX0_tieKnots 19 = .ok (.iadd, 1) := by decide +kernel
theorem dX0_tieKnots_20 : decode cX0_tieKnots 20 = .ok (.istore 5, 2) := by decide +kernel
theorem dX0_tieKnots_22 : decode cX0_tieKnots 22 = .ok (.aload_n 0, 1) := by decide +kernel
theorem dX0_tieKnots_23 : decode cX0_tieKnots 23 = .ok (.iload 4, 2) := by decide +kernel
theorem dX0_tieKnots_25 : decode cX0_tieKnots 25 = .ok (.iload 5, 2) := by decide +kernel
theorem dX0_tieKnots_27 : decode cX0_tieKnots 27 = .ok (.invokevirtual 59, 3) := by decide +kernel
theorem dX0_tieKnots_30 : decode cX0_tieKnots 30 = .ok (.istore 6, 2) := by decide +kernel
theorem dX0_tieKnots_32 : decode cX0_tieKnots 32 = .ok (.aload_n 0, 1) := by decide +kernel
theorem dX0_tieKnots_33 : decode cX0_tieKnots 33 = .ok (.getfield 9, 3) := by decide +kernel
theorem dX0_tieKnots_36 : decode cX0_tieKnots 36 = .ok (.iload 4, 2) := by decide +kernel
theorem dX0_tieKnots_38 : decode cX0_tieKnots 38 = .ok (.dup2, 1) := by decide +kernel
theorem dX0_tieKnots_39 : decode cX0_tieKnots 39 = .ok (.iaload, 1) := by decide +kernel
theorem dX0_tieKnots_40 : decode cX0_tieKnots 40 = .ok (.iload 5, 2) := by decide +kernel
theorem dX0_tieKnots_42 : decode cX0_tieKnots 42 = .ok (.iadd, 1) := by decide +kernel
theorem dX0_tieKnots_43 : decode cX0_tieKnots 43 = .ok (.iastore, 1) := by decide +kernel
theorem dX0_tieKnots_44 : decode cX0_tieKnots 44 = .ok (.aload_n 0, 1) := by decide +kernel
theorem dX0_tieKnots_45 : decode cX0_tieKnots 45 = .ok (.getfield 15, 3) := by decide +kernel
theorem dX0_tieKnots_48 : decode cX0_tieKnots 48 = .ok (.iload 4, 2) := by decide +kernel
theorem dX0_tieKnots_50 : decode cX0_tieKnots 50 = .ok (.dup2, 1) := by decide +kernel
theorem dX0_tieKnots_51 : decode cX0_tieKnots 51 = .ok (.iaload, 1) := by decide +kernel
theorem dX0_tieKnots_52 : decode cX0_tieKnots 52 = .ok (.iload 6, 2) := by decide +kernel
theorem dX0_tieKnots_54 : decode cX0_tieKnots 54 = .ok (.iadd, 1) := by decide +kernel
theorem dX0_tieKnots_55 : decode cX0_tieKnots 55 = .ok (.iastore, 1) := by decide +kernel
theorem dX0_tieKnots_56 : decode cX0_tieKnots 56 = .ok (.iload_n 2, 1) := by decide +kernel
theorem dX0_tieKnots_57 : decode cX0_tieKnots 57 = .ok (.bipush 10, 2) := by decide +kernel
theorem dX0_tieKnots_59 : decode cX0_tieKnots 59 = .ok (.idiv, 1) := by decide +kernel
theorem dX0_tieKnots_60 : decode cX0_tieKnots 60 = .ok (.istore_n 2, 1) := by decide +kernel
theorem dX0_tieKnots_61 : decode cX0_tieKnots 61 = .ok (.iload 6, 2) := by decide +kernel
theorem dX0_tieKnots_63 : decode cX0_tieKnots 63 = .ok (.istore_n 3, 1) := by decide +kernel
theorem dX0_tieKnots_64 : decode cX0_tieKnots 64 = .ok (.iinc 4 1, 3) := by decide +kernel
theorem dX0_tieKnots_67 : decode cX0_tieKnots 67 = .ok (.goto (-60), 3) := by decide +kernel
theorem dX0_tieKnots_70 : decode cX0_tieKnots 70 = .ok (.return_, 1) := by decide +kernel
theorem dX0_tieAsPart_0 : decode cX0_tieAsPart 0 = .ok (.aload_n 0, 1) := by decide +kernel
theorem dX0_tieAsPart_1 : decode cX0_tieAsPart 1 = .ok (.getfield 21, 3) := by decide +kernel
theorem dX0_tieAsPart_4 : decode cX0_tieAsPart 4 = .ok (.bipush 16, 2) := by decide +kernel
theorem dX0_tieAsPart_6 : decode cX0_tieAsPart 6 = .ok (.if_icmp .ge 28, 3) := by decide +kernel
theorem dX0_tieAsPart_9 : decode cX0_tieAsPart 9 = .ok (.aload_n 0, 1) := by decide +kernel
theorem dX0_tieAsPart_10 : decode cX0_tieAsPart 10 = .ok (.getfield 18, 3) := by decide +kernel
theorem dX0_tieAsPart_13 : decode cX0_tieAsPart 13 = .ok (.aload_n 0, 1) := by decide +kernel
theorem dX0_tieAsPart_14 : decode cX0_tieAsPart 14 = .ok (.getfield 21, 3) := by decide +kernel
theorem dX0_tieAsPart_17 : decode cX0_tieAsPart 17 = .ok (.iload_n 1, 1) := by decide +kernel
theorem dX0_tieAsPart_18 : decode cX0_tieAsPart 18 = .ok (.iastore, 1) := by decide +kernel
theorem dX0_tieAsPart_19 : decode cX0_tieAsPart 19 = .ok (.aload_n 0, 1) := by decide +kernel
theorem dX0_tieAsPart_20 : decode cX0_tieAsPart 20 = .ok (.dup, 1) := by decide +kernel
theorem dX0_tieAsPart_21 : decode cX0_tieAsPart 21 = .ok (.getfield 21, 3) := by decide +kernel
theorem dX0_tieAsPart_24 : decode cX0_tieAsPart 24 = .ok (.iconst 1, 1) := by decide +kernel
theorem dX0_tieAsPart_25 : decode cX0_tieAsPart 25 = .ok (.iadd, 1) := by decide +kernel
theorem dX0_tieAsPart_26 : decode cX0_tieAsPart 26 = .ok (.putfield 21, 3) := by decide +kernel
theorem dX0_tieAsPart_29 : decode cX0_tieAsPart 29 = .ok (.aload_n 0, 1) := by decide +kernel
theorem dX0_tieAsPart_30 : decode cX0_tieAsPart 30 = .ok (.iload_n 1, 1) := by decide +kernel
theorem dX0_tieAsPart_31 : decode cX0_tieAsPart 31 = .ok (.invokevirtual 69, 3) := by decide +kernel
theorem dX0_tieAsPart_34 : decode cX0_tieAsPart 34 = .ok (.return_, 1) := by decide +kernel
theorem dX0_loopsFor_0 : decode cX0_loopsFor 0 = .ok (.aload_n 0, 1) := by decide +kernel
theorem dX0_loopsFor_1 : decode cX0_loopsFor 1 = .ok (.iload_n 1, 1) := by decide +kernel
theorem dX0_loopsFor_2 : decode cX0_loopsFor 2 = .ok (.invokevirtual 37, 3) := by decide +kernel
theorem dX0_loopsFor_5 : decode cX0_loopsFor 5 = .ok (.iload_n 2, 1) := by decide +kernel
theorem dX0_loopsFor_6 : decode cX0_loopsFor 6 = .ok (.iadd, 1) := by decide +kernel
theorem dX0_loopsFor_7 : decode cX0_loopsFor 7 = .ok (.bipush 10, 2) := by decide +kernel
theorem dX0_loopsFor_9 : decode cX0_loopsFor 9 = .ok (.idiv, 1) := by decide +kernel
theorem dX0_loopsFor_10 : decode cX0_loopsFor 10 = .ok (.ireturn, 1) := by decide +kernel
theorem dX0_sumOf_0 : decode cX0_sumOf 0 = .ok (.iconst 0, 1) := by decide +kernel
theorem dX0_sumOf_1 : decode cX0_sumOf 1 = .ok (.istore_n 2, 1) := by decide +kernel
theorem dX0_sumOf_2 : decode cX0_sumOf 2 = .ok (.iconst 0, 1) := by decide +kernel
theorem dX0_sumOf_3 : decode cX0_sumOf 3 = .ok (.istore_n 3, 1) := by decide +kernel
theorem dX0_sumOf_4 : decode cX0_sumOf 4 = .ok (.iload_n 3, 1) := by decide +kernel
theorem dX0_sumOf_5 : decode cX0_sumOf 5 = .ok (.iload_n 1, 1) := by decide +kernel
theorem dX0_sumOf_6 : decode cX0_sumOf 6 = .ok (.if_icmp .ge 21, 3) := by decide +kernel
theorem dX0_sumOf_9 : decode cX0_sumOf 9 = .ok (.iload_n 3, 1) := by decide +kernel
theorem dX0_sumOf_10 : decode cX0_sumOf 10 = .ok (.aload_n 0, 1) := by decide +kernel
theorem dX0_sumOf_11 : decode cX0_sumOf 11 = .ok (.arraylength, 1) := by decide +kernel
theorem dX0_sumOf_12 : decode cX0_sumOf 12 = .ok (.if_icmp .ge 15, 3) := by decide +kernel
theorem dX0_sumOf_15 : decode cX0_sumOf 15 = .ok (.iload_n 2, 1) := by decide +kernel
theorem dX0_sumOf_16 : decode cX0_sumOf 16 = .ok (.aload_n 0, 1) := by decide +kernel
theorem dX0_sumOf_17 : decode cX0_sumOf 17 = .ok (.iload_n 3, 1) := by decide +kernel
theorem dX0_sumOf_18 : decode cX0_sumOf 18 = .ok (.iaload, 1) := by decide +kernel
theorem dX0_sumOf_19 : decode cX0_sumOf 19 = .ok (.iadd, 1) := by decide +kernel
theorem dX0_sumOf_20 : decode cX0_sumOf 20 = .ok (.istore_n 2, 1) := by decide +kernel
theorem dX0_sumOf_21 : decode cX0_sumOf 21 = .ok (.iinc 3 1, 3) := by decide +kernel
theorem dX0_sumOf_24 : decode cX0_sumOf 24 = .ok (.goto (-20), 3) := by decide +kernel
theorem dX0_sumOf_27 : decode cX0_sumOf 27 = .ok (.iload_n 2, 1) := by decide +kernel
theorem dX0_sumOf_28 : decode cX0_sumOf 28 = .ok (.ireturn, 1) := by decide +kernel
theorem dX1_init_0 : decode cX1_init 0 = .ok (.aload_n 0, 1) := by decide +kernel
theorem dX1_init_1 : decode cX1_init 1 = .ok (.invokespecial 3, 3) := by decide +kernel
theorem dX1_init_4 : decode cX1_init 4 = .ok (.aload_n 0, 1) := by decide +kernel
theorem dX1_init_5 : decode cX1_init 5 = .ok (.bipush 7, 2) := by decide +kernel
theorem dX1_init_7 : decode cX1_init 7 = .ok (.anewarray 9, 3) := by decide +kernel
theorem dX1_init_10 : decode cX1_init 10 = .ok (.putfield 11, 3) := by decide +kernel
theorem dX1_init_13 : decode cX1_init 13 = .ok (.aload_n 0, 1) := by decide +kernel
theorem dX1_init_14 : decode cX1_init 14 = .ok (.bipush 40, 2) := by decide +kernel
theorem dX1_init_16 : decode cX1_init 16 = .ok (.putfield 17, 3) := by decide +kernel
theorem dX1_init_19 : decode cX1_init 19 = .ok (.aload_n 0, 1) := by decide +kernel
theorem dX1_init_20 : decode cX1_init 20 = .ok (.iconst 0, 1) := by decide +kernel
theorem dX1_init_21 : decode cX1_init 21 = .ok (.putfield 21, 3) := by decide +kernel
theorem dX1_init_24 : decode cX1_init 24 = .ok (.aload_n 0, 1) := by decide +kernel
theorem dX1_init_25 : decode cX1_init 25 = .ok (.iconst 0, 1) := by decide +kernel
theorem dX1_init_26 : decode cX1_init 26 = .ok (.putfield 24, 3) := by decide +kernel
theorem dX1_init_29 : decode cX1_init 29 = .ok (.aload_n 0, 1) := by decide +kernel
theorem dX1_init_30 : decode cX1_init 30 = .ok (.iconst 0, 1) := by decide +kernel
theorem dX1_init_31 : decode cX1_init 31 = .ok (.putfield 27, 3) := by decide +kernel
theorem dX1_init_34 : decode cX1_init 34 = .ok (.aload_n 0, 1) := by decide +kernel
theorem dX1_init_35 : decode cX1_init 35 = .ok (.iconst 0, 1) := by decide +kernel
theorem dX1_init_36 : decode cX1_init 36 = .ok (.putfield 30, 3) := by decide +kernel
theorem dX1_init_39 : decode cX1_init 39 = .ok (.aload_n 0, 1) := by decide +kernel
theorem dX1_init_40 : decode cX1_init 40 = .ok (.iconst 0, 1) := by decide +kernel
theorem dX1_init_41 : decode cX1_init 41 = .ok (.putfield 33, 3) := by decide +kernel
theorem dX1_init_44 : decode cX1_init 44 = .ok (.iconst 0, 1) := by decide +kernel
theorem dX1_init_45 : decode cX1_init 45 = .ok (.istore_n 1, 1) := by decide +kernel
theorem dX1_init_46 : decode cX1_init 46 = .ok (.iload_n 1, 1) := by decide +kernel
theorem dX1_init_47 : decode cX1_init 47 = .ok (.bipush 7, 2) := by decide +kernel
theorem dX1_init_49 : decode cX1_init 49 = .ok (.if_icmp .ge 22, 3) := by decide +kernel
theorem dX1_init_52 : decode cX1_init 52 = .ok (.aload_n 0, 1) := by decide +kernel
theorem dX1_init_53 : decode cX1_init 53 = .ok (.getfield 11, 3) := by decide +kernel
theorem dX1_init_56 : decode cX1_init 56 = .ok (.iload_n 1, 1) := by decide +kernel
theorem dX1_init_57 : decode cX1_init 57 = .ok (.new 9, 3) := by decide +kernel
theorem dX1_init_60 : decode cX1_init 60 = .ok (.dup, 1) := by decide +kernel
theorem dX1_init_61 : decode cX1_init 61 = .ok (.invokespecial 36, 3) := by decide +kernel
theorem dX1_init_64 : decode cX1_init 64 = .ok (.aastore, 1) := by decide +kernel
theorem dX1_init_65 : decode cX1_init 65 = .ok (.iinc 1 1, 3) := by decide +kernel
theorem dX1_init_68 : decode cX1_init 68 = .ok (.goto (-22), 3) := by decide +kernel
theorem dX1_init_71 : decode cX1_init 71 = .ok (.return_, 1) := by decide +kernel
theorem dX1_copyFrom_0 : decode cX1_copyFrom 0 = .ok (.iconst 0, 1) := by decide +kernel
theorem dX1_copyFrom_1 : decode cX1_copyFrom 1 = .ok (.istore_n 2, 1) := by decide +kernel
theorem dX1_copyFrom_2 : decode cX1_copyFrom 2 = .ok (.iload_n 2, 1) := by decide +kernel
theorem dX1_copyFrom_3 : decode cX1_copyFrom 3 = .ok (.bipush 7, 2) := by decide +kernel
theorem dX1_copyFrom_5 : decode cX1_copyFrom 5 = .ok (.if_icmp .ge 24, 3) := by decide +kernel
theorem dX1_copyFrom_8 : decode cX1_copyFrom 8 = .ok (.aload_n 0, 1) := by decide +kernel
theorem dX1_copyFrom_9 : decode cX1_copyFrom 9 = .ok (.getfield 11, 3) := by decide +kernel
theorem dX1_copyFrom_12 : decode cX1_copyFrom 12 = .ok (.iload_n 2, 1) := by decide +kernel
theorem dX1_copyFrom_13 : decode cX1_copyFrom 13 = .ok (.aaload, 1) := by decide +kernel
theorem dX1_copyFrom_14 : decode cX1_copyFrom 14 = .ok (.aload_n 1, 1) := by decide +kernel
theorem dX1_copyFrom_15 : decode cX1_copyFrom 15 = .ok (.getfield 11, 3) := by decide +kernel
theorem dX1_copyFrom_18 : decode cX1_copyFrom 18 = .ok (.iload_n 2, 1) := by decide +kernel
theorem dX1_copyFrom_19 : decode cX1_copyFrom 19 = .ok (.aaload, 1) := by decide +kernel
theorem dX1_copyFrom_20 : decode cX1_copyFrom 20 = .ok (.invokevirtual 37, 3) := by decide +kernel
theorem dX1_copyFrom_23 : decode cX1_copyFrom 23 = .ok (.iinc 2 1, 3) := by decide +kernel
theorem dX1_copyFrom_26 : decode cX1_copyFrom 26 = .ok (.goto (-24), 3) := by decide +kernel
theorem dX1_copyFrom_29 : decode cX1_copyFrom 29 = .ok (.aload_n 0, 1) := by decide +kernel
theorem dX1_copyFrom_30 : decode cX1_copyFrom 30 = .ok (.aload_n 1, 1) := by decide +kernel
theorem dX1_copyFrom_31 : decode cX1_copyFrom 31 = .ok (.getfield 17, 3) := by decide +kernel
theorem dX1_copyFrom_34 : decode cX1_copyFrom 34 = .ok (.putfield 17, 3) := by decide +kernel
theorem dX1_copyFrom_37 : decode cX1_copyFrom 37 = .ok (.aload_n 0, 1) := by decide +kernel
theorem dX1_copyFrom_38 : decode cX1_copyFrom 38 = .ok (.aload_n 1, 1) := by decide +kernel
theorem dX1_copyFrom_39 : decode cX1_copyFrom 39 = .ok (.getfield 21, 3) := by decide +kernel
theorem dX1_copyFrom_42 : decode cX1_copyFrom 42 = .ok (.putfield 21, 3) := by decide +kernel
theorem dX1_copyFrom_45 : decode cX1_copyFrom 45 = .ok (.aload_n 0, 1) := by decide +kernel
theorem dX1_copyFrom_46 : decode cX1_copyFrom 46 = .ok (.aload_n 1, 1) := by decide +kernel
theorem dX1_copyFrom_47 : decode cX1_copyFrom 47 = .ok (.getfield 24, 3) := by decide +kernel
theorem dX1_copyFrom_50 : decode cX1_copyFrom 50 = .ok (.putfield 24, 3) := by decide +kernel
theorem dX1_copyFrom_53 : decode cX1_copyFrom 53 = .ok (.aload_n 0, 1) := by decide +kernel
theorem dX1_copyFrom_54 : decode cX1_copyFrom 54 = .ok (.aload_n 1, 1) := by decide +kernel
theorem dX1_copyFrom_55 : decode cX1_copyFrom 55 = .ok (.getfield 27, 3) := by decide +kernel
theorem dX1_copyFrom_58 : decode cX1_copyFrom 58 = .ok (.putfield 27, 3) := by decide +kernel
theorem dX1_copyFrom_61 : decode cX1_copyFrom 61 = .ok (.aload_n 0, 1) := by decide +kernel
theorem dX1_copyFrom_62 : decode cX1_copyFrom 62 = .ok (.aload_n 1, 1) := by decide +kernel
theorem dX1_copyFrom_63 : decode cX1_copyFrom 63 = .ok (.getfield 30, 3) := by decide +kernel
theorem dX1_copyFrom_66 : decode cX1_copyFrom 66 = .ok (.putfield 30, 3) := by decide +kernel
theorem dX1_copyFrom_69 : decode cX1_copyFrom 69 = .ok (.aload_n 0, 1) := by decide +kernel
theorem dX1_copyFrom_70 : decode cX1_copyFrom 70 = .ok (.aload_n 1, 1) := by decide +kernel
theorem dX1_copyFrom_71 : decode cX1_copyFrom 71 = .ok (.getfield 33, 3) := by decide +kernel
theorem dX1_copyFrom_74 : decode cX1_copyFrom 74 = .ok (.putfield 33, 3) := by decide +kernel
theorem dX1_copyFrom_77 : decode cX1_copyFrom 77 = .ok (.return_, 1) := by decide +kernel
theorem dX1_tiePart_0 : decode cX1_tiePart 0 = .ok (.aload_n 1, 1) := by decide +kernel
theorem dX1_tiePart_1 : decode cX1_tiePart 1 = .ok (.iload_n 2, 1) := by decide +kernel
theorem dX1_tiePart_2 : decode cX1_tiePart 2 = .ok (.aload_n 0, 1) := by decide +kernel
theorem dX1_tiePart_3 : decode cX1_tiePart 3 = .ok (.getfield 17, 3) := by decide +kernel
theorem dX1_tiePart_6 : decode cX1_tiePart 6 = .ok (.invokevirtual 41, 3) := by decide +kernel
theorem dX1_tiePart_9 : decode cX1_tiePart 9 = .ok (.istore_n 3, 1) := by decide +kernel
theorem dX1_tiePart_10 : decode cX1_tiePart 10 = .ok (.iload_n 3, 1) := by decide +kernel
theorem dX1_tiePart_11 : decode cX1_tiePart 11 = .ok (.ifCond .eq 15, 3) := by decide +kernel
theorem dX1_tiePart_14 : decode cX1_tiePart 14 = .ok (.aload_n 0, 1) := by decide +kernel
theorem dX1_tiePart_15 : decode cX1_tiePart 15 = .ok (.dup, 1) := by decide +kernel
theorem dX1_tiePart_16 : decode cX1_tiePart 16 = .ok (.getfield 33, 3) := by decide +kernel
theorem dX1_tiePart_19 : decode cX1_tiePart 19 = .ok (.iconst 1, 1) := by decide +kernel
theorem dX1_tiePart_20 : decode cX1_tiePart 20 = .ok (.iadd, 1) := by decide +kernel
theorem dX1_tiePart_21 : decode cX1_tiePart 21 = .ok (.putfield 33, 3) := by decide +kernel
theorem dX1_tiePart_24 : decode cX1_tiePart 24 = .ok (.iload_n 3, 1) := by decide +kernel
theorem dX1_tiePart_25 : decode cX1_tiePart 25 = .ok (.ireturn, 1) := by decide +kernel
theorem dX1_tiePart_26 : decode cX1_tiePart 26 = .ok (.aload_n 1, 1) := by decide +kernel
theorem dX1_tiePart_27 : decode cX1_tiePart 27 = .ok (.invokevirtual 45, 3) := by decide +kernel
theorem dX1_tiePart_30 : decode cX1_tiePart 30 = .ok (.istore 4, 2) := by decide +kernel
theorem dX1_tiePart_32 : decode cX1_tiePart 32 = .ok (.aload_n 1, 1) := by decide +kernel
theorem dX1_tiePart_33 : decode cX1_tiePart 33 = .ok (.invokevirtual 49, 3) := by decide +kernel
theorem dX1_tiePart_36 : decode cX1_tiePart 36 = .ok (.istore 5, 2) := by decide +kernel
theorem dX1_tiePart_38 : decode cX1_tiePart 38 = .ok (.aload_n 1, 1) := by decide +kernel
theorem dX1_tiePart_39 : decode cX1_tiePart 39 = .ok (.iload_n 2, 1) := by decide +kernel
theorem dX1_tiePart_40 : decode cX1_tiePart 40 = .ok (.invokevirtual 52, 3) := by decide +kernel
theorem dX1_tiePart_43 : decode cX1_tiePart 43 = .ok (.bipush 10, 2) := by decide +kernel
theorem dX1_tiePart_45 : decode cX1_tiePart 45 = .ok (.aload_n 0, 1) := by decide +kernel
theorem dX1_tiePart_46 : decode cX1_tiePart 46 = .ok (.aload_n 1, 1) := by decide +kernel
theorem dX1_tiePart_47 : decode cX1_tiePart 47 = .ok (.iload 4, 2) := by decide +kernel
theorem dX1_tiePart_49 : decode cX1_tiePart 49 = .ok (.iload 5, 2) := by decide +kernel
theorem dX1_tiePart_51 : decode cX1_tiePart 51 = .ok (.invokevirtual 56, 3) := by decide +kernel
theorem dX1_tiePart_54 : decode cX1_tiePart 54 = .ok (.iadd, 1) := by decide +kernel
theorem dX1_tiePart_55 : decode cX1_tiePart 55 = .ok (.ireturn, 1) := by decide +kernel
theorem dX1_tieCord_0 : decode cX1_tieCord 0 = .ok (.aload_n 1, 1) := by decide +kernel
theorem dX1_tieCord_1 : decode cX1_tieCord 1 = .ok (.invokevirtual 60, 3) := by decide +kernel
theorem dX1_tieCord_4 : decode cX1_tieCord 4 = .ok (.istore_n 3, 1) := by decide +kernel
theorem dX1_tieCord_5 : decode cX1_tieCord 5 = .ok (.iload_n 3, 1) := by decide +kernel
theorem dX1_tieCord_6 : decode cX1_tieCord 6 = .ok (.ifCond .ne 7, 3) := by decide +kernel
theorem dX1_tieCord_9 : decode cX1_tieCord 9 = .ok (.iconst 0, 1) := by decide +kernel
theorem dX1_tieCord_10 : decode cX1_tieCord 10 = .ok (.goto 9, 3) := by decide +kernel
theorem dX1_tieCord_13 : decode cX1_tieCord 13 = .ok (.aload_n 0, 1) := by decide +kernel
theorem dX1_tieCord_14 : decode cX1_tieCord 14 = .ok (.aload_n 2, 1) := by decide +kernel
theorem dX1_tieCord_15 : decode cX1_tieCord 15 = .ok (.iload_n 3, 1) := by decide +kernel
theorem dX1_tieCord_16 : decode cX1_tieCord 16 = .ok (.invokevirtual 63, 3) := by decide +kernel
theorem dX1_tieCord_19 : decode cX1_tieCord 19 = .ok (.ireturn, 1) := by decide +kernel
theorem dX1_tieLack_0 : decode cX1_tieLack 0 = .ok (.aload_n 1, 1) := by decide +kernel
theorem dX1_tieLack_1 : decode cX1_tieLack 1 = .ok (.invokevirtual 67, 3) := by decide +kernel
theorem dX1_tieLack_4 : decode cX1_tieLack 4 = .ok (.istore_n 2, 1) := by decide +kernel
theorem dX1_tieLack_5 : decode cX1_tieLack 5 = .ok (.iload_n 2, 1) := by decide +kernel
theorem dX1_tieLack_6 : decode cX1_tieLack 6 = .ok (.ifCond .ne 5, 3) := by decide +kernel
theorem dX1_tieLack_9 : decode cX1_tieLack 9 = .ok (.iconst 0, 1) := by decide +kernel
theorem dX1_tieLack_10 : decode cX1_tieLack 10 = .ok (.ireturn, 1) := by decide +kernel
theorem dX1_tieLack_11 : decode cX1_tieLack 11 = .ok (.aload_n 1, 1) := by decide +kernel
theorem dX1_tieLack_12 : decode cX1_tieLack 12 = .ok (.iload_n 2, 1) := by decide +kernel
theorem dX1_tieLack_13 : decode cX1_tieLack 13 = .ok (.aload_n 0, 1) := by decide +kernel
theorem dX1_tieLack_14 : decode cX1_tieLack 14 = .ok (.getfield 17, 3) := by decide +kernel
theorem dX1_tieLack_17 : decode cX1_tieLack 17 = .ok (.invokevirtual 70, 3) := by decide +kernel
theorem dX1_tieLack_20 : decode cX1_tieLack 20 = .ok (.istore_n 3, 1) := by decide +kernel
theorem dX1_tieLack_21 : decode cX1_tieLack 21 = .ok (.iload_n 3, 1) := by decide +kernel
theorem dX1_tieLack_22 : decode cX1_tieLack 22 = .ok (.ifCond .eq 16, 3) := by decide +kernel
theorem dX1_tieLack_25 : decode cX1_tieLack 25 = .ok (.aload_n 0, 1) := by decide +kernel
theorem dX1_tieLack_26 : decode cX1_tieLack 26 = .ok (.dup, 1) := by decide +kernel
theorem dX1_tieLack_27 : decode cX1_tieLack 27 = .ok (.getfield 33, 3) := by decide +kernel
theorem dX1_tieLack_30 : decode cX1_tieLack 30 = .ok (.iconst 1, 1) := by decide +kernel
theorem dX1_tieLack_31 : decode cX1_tieLack 31 = .ok (.iadd, 1) := by decide +kernel
theorem dX1_tieLack_32 : decode cX1_tieLack 32 = .ok (.putfield 33, 3) := by decide +kernel
theorem dX1_tieLack_35 : decode cX1_tieLack 35 = .ok (.iload_n 3, 1) := by decide +kernel
theorem dX1_tieLack_36 : decode cX1_tieLack 36 = .ok (.ineg, 1) := by decide +kernel
theorem dX1_tieLack_37 : decode cX1_tieLack 37 = .ok (.ireturn, 1) := by decide +kernel
theorem dX1_tieLack_38 : decode cX1_tieLack 38 = .ok (.aload_n 1, 1) := by decide +kernel
theorem dX1_tieLack_39 : decode cX1_tieLack 39 = .ok (.invokevirtual 45, 3) := by decide +kernel
theorem dX1_tieLack_42 : decode cX1_tieLack 42 = .ok (.istore 4, 2) := by decide +kernel
theorem dX1_tieLack_44 : decode cX1_tieLack 44 = .ok (.aload_n 1, 1) := by decide +kernel
theorem dX1_tieLack_45 : decode cX1_tieLack 45 = .ok (.invokevirtual 49, 3) := by decide +kernel
theorem dX1_tieLack_48 : decode cX1_tieLack 48 = .ok (.istore 5, 2) := by decide +kernel
theorem dX1_tieLack_50 : decode cX1_tieLack 50 = .ok (.aload_n 1, 1) := by decide +kernel
theorem dX1_tieLack_51 : decode cX1_tieLack 51 = .ok (.iload_n 2, 1) := by decide +kernel
theorem dX1_tieLack_52 : decode cX1_tieLack 52 = .ok (.invokevirtual 73, 3) := by decide +kernel
theorem dX1_tieLack_55 : decode cX1_tieLack 55 = .ok (.aload_n 0, 1) := by decide +kernel
theorem dX1_tieLack_56 : decode cX1_tieLack 56 = .ok (.aload_n 1, 1) := by decide +kernel
theorem dX1_tieLack_57 : decode cX1_tieLack 57 = .ok (.iload 4, 2) := by decide +kernel
theorem dX1_tieLack_59 : decode cX1_tieLack 59 = .ok (.iload 5, 2) := by decide +kernel
theorem dX1_tieLack_61 : decode cX1_tieLack 61 = .ok (.invokevirtual 56, 3) := by decide +kernel
theorem dX1_tieLack_64 : decode cX1_tieLack 64 = .ok (.pop, 1) := by decide +kernel
theorem dX1_tieLack_65 : decode cX1_tieLack 65 = .ok (.iload_n 2, 1) := by decide +kernel
theorem dX1_tieLack_66 : decode cX1_tieLack 66 = .ok (.ireturn, 1) := by decide +kernel
theorem dX1_countTied_0 : decode cX1_countTied 0 = .ok (.aload_n 1, 1) := by decide +kernel
theorem dX1_countTied_1 : decode cX1_countTied 1 = .ok (.invokevirtual 49, 3) := by decide +kernel
theorem dX1_countTied_4 : decode cX1_countTied 4 = .ok (.iload_n 3, 1) := by decide +kernel
theorem dX1_countTied_5 : decode cX1_countTied 5 = .ok (.isub, 1) := by decide +kernel
theorem dX1_countTied_6 : decode cX1_countTied 6 = .ok (.istore 4, 2) := by decide +kernel
theorem dX1_countTied_8 : decode cX1_countTied 8 = .ok (.aload_n 0, 1) := by decide +kernel
theorem dX1_countTied_9 : decode cX1_countTied 9 = .ok (.dup, 1) := by decide +kernel
theorem dX1_countTied_10 : decode cX1_countTied 10 = .ok (.getfield 21, 3) := by decide +kernel
theorem dX1_countTied_13 : decode cX1_countTied 13 = .ok (.aload_n 1, 1) := by decide +kernel
theorem dX1_countTied_14 : decode cX1_countTied 14 = .ok (.invokevirtual 45, 3) := by decide +kernel
theorem dX1_countTied_17 : decode cX1_countTied 17 = .ok (.iload_n 2, 1) := by decide +kernel
theorem dX1_countTied_18 : decode cX1_countTied 18 = .ok (.isub, 1) := by decide +kernel
theorem dX1_countTied_19 : decode cX1_countTied 19 = .ok (.iadd, 1) := by decide +kernel
theorem dX1_countTied_20 : decode cX1_countTied 20 = .ok (.putfield 21, 3) := by decide +kernel
theorem dX1_countTied_23 : decode cX1_countTied 23 = .ok (.aload_n 0, 1) := by decide +kernel
theorem dX1_countTied_24 : decode cX1_countTied 24 = .ok (.dup, 1) := by decide +kernel
theorem dX1_countTied_25 : decode cX1_countTied 25 = .ok (.getfield 24, 3) := by decide +kernel
theorem dX1_countTied_28 : decode cX1_countTied 28 = .ok (.iload 4, 2) := by decide +kernel
theorem dX1_countTied_30 : decode cX1_countTied 30 = .ok (.iadd, 1) := by decide +kernel
theorem dX1_countTied_31 : decode cX1_countTied 31 = .ok (.putfield 24, 3) := by decide +kernel
theorem dX1_countTied_34 : decode cX1_countTied 34 = .ok (.iload 4, 2) := by decide +kernel
theorem dX1_countTied_36 : decode cX1_countTied 36 = .ok (.ireturn, 1) := by decide +kernel
theorem dX1_loosen_0 : decode cX1_loosen 0 = .ok (.aload_n 1, 1) := by decide +kernel
theorem dX1_loosen_1 : decode cX1_loosen 1 = .ok (.iload_n 2, 1) := by decide +kernel
theorem dX1_loosen_2 : decode cX1_loosen 2 = .ok (.invokevirtual 76, 3) := by decide +kernel
theorem dX1_loosen_5 : decode cX1_loosen 5 = .ok (.ifCond .ne 15, 3) := by decide +kernel
theorem dX1_loosen_8 : decode cX1_loosen 8 = .ok (.aload_n 0, 1) := by decide +kernel
theorem dX1_loosen_9 : decode cX1_loosen 9 = .ok (.dup, 1) := by decide +kernel
theorem dX1_loosen_10 : decode cX1_loosen 10 = .ok (.getfield 33, 3) := by decide +kernel
theorem dX1_loosen_13 : decode cX1_loosen 13 = .ok (.iconst 1, 1) := by decide +kernel
theorem dX1_loosen_14 : decode cX1_loosen 14 = .ok (.iadd, 1) := by decide +kernel
theorem dX1_loosen_15 : decode cX1_loosen 15 = .ok (.putfield 33, 3) := by decide +kernel
theorem dX1_loosen_18 : decode cX1_loosen 18 = .ok (.iconst (-1), 1) := by decide +kernel
theorem dX1_loosen_19 : decode cX1_loosen 19 = .ok (.ireturn, 1) := by decide +kernel
theorem dX1_loosen_20 : decode cX1_loosen 20 = .ok (.aload_n 1, 1) := by decide +kernel
theorem dX1_loosen_21 : decode cX1_loosen 21 = .ok (.getfield 80, 3) := by decide +kernel
theorem dX1_loosen_24 : decode cX1_loosen 24 = .ok (.iload_n 2, 1) := by decide +kernel
theorem dX1_loosen_25 : decode cX1_loosen 25 = .ok (.dup2, 1) := by decide +kernel
theorem dX1_loosen_26 : decode cX1_loosen 26 = .ok (.iaload, 1) := by decide +kernel
theorem dX1_loosen_27 : decode cX1_loosen 27 = .ok (.iconst 1, 1) := by decide +kernel
theorem dX1_loosen_28 : decode cX1_loosen 28 = .ok (.isub, 1) := by decide +kernel
theorem dX1_loosen_29 : decode cX1_loosen 29 = .ok (.iastore, 1) := by decide +kernel
theorem dX1_loosen_30 : decode cX1_loosen 30 = .ok (.aload_n 1, 1) := by decide +kernel
theorem dX1_loosen_31 : decode cX1_loosen 31 = .ok (.dup, 1) := by decide +kernel
theorem dX1_loosen_32 : decode cX1_loosen 32 = .ok (.getfield 84, 3) := by decide +kernel
theorem dX1_loosen_35 : decode cX1_loosen 35 = .ok (.iconst 1, 1) := by decide +kernel
theorem dX1_loosen_36 : decode cX1_loosen 36 = .ok (.iadd, 1) := by decide +kernel
theorem dX1_loosen_37 : decode cX1_loosen 37 = .ok (.putfield 84, 3) := by decide +kernel
theorem dX1_loosen_40 : decode cX1_loosen 40 = .ok (.aload_n 0, 1) := by decide +kernel
theorem dX1_loosen_41 : decode cX1_loosen 41 = .ok (.dup, 1) := by decide +kernel
theorem dX1_loosen_42 : decode cX1_loosen 42 = .ok (.getfield 27, 3) := by decide +kernel
theorem dX1_loosen_45 : decode cX1_loosen 45 = .ok (.iconst 1, 1) := by decide +kernel
theorem dX1_loosen_46 : decode cX1_loosen 46 = .ok (.iadd, 1) := by decide +kernel
theorem dX1_loosen_47 : decode cX1_loosen 47 = .ok (.putfield 27, 3) := by decide +kernel
theorem dX1_loosen_50 : decode cX1_loosen 50 = .ok (.aload_n 1, 1) := by decide +kernel
theorem dX1_loosen_51 : decode cX1_loosen 51 = .ok (.iload_n 2, 1) := by decide +kernel
theorem dX1_loosen_52 : decode cX1_loosen 52 = .ok (.invokevirtual 76, 3) := by decide +kernel
theorem dX1_loosen_55 : decode cX1_loosen 55 = .ok (.ireturn, 1) := by decide +kernel
theorem dX1_replace_0 : decode cX1_replace 0 = .ok (.aload_n 1, 1) := by decide +kernel
theorem dX1_replace_1 : decode cX1_replace 1 = .ok (.invokevirtual 60, 3) := by decide +kernel
theorem dX1_replace_4 : decode cX1_replace 4 = .ok (.istore_n 2, 1) := by decide +kernel
theorem dX1_replace_5 : decode cX1_replace 5 = .ok (.aload_n 0, 1) := by decide +kernel
theorem dX1_replace_6 : decode cX1_replace 6 = .ok (.dup, 1) := by decide +kernel
theorem dX1_replace_7 : decode cX1_replace 7 = .ok (.getfield 30, 3) := by decide +kernel
theorem dX1_replace_10 : decode cX1_replace 10 = .ok (.aload_n 1, 1) := by decide +kernel
theorem dX1_replace_11 : decode cX1_replace 11 = .ok (.invokevirtual 85, 3) := by decide +kernel
theorem dX1_replace_14 : decode cX1_replace 14 = .ok (.iadd, 1) := by decide +kernel
theorem dX1_replace_15 : decode cX1_replace 15 = .ok (.putfield 30, 3) := by decide +kernel
theorem dX1_replace_18 : decode cX1_replace 18 = .ok (.aload_n 1, 1) := by decide +kernel
theorem dX1_replace_19 : decode cX1_replace 19 = .ok (.invokevirtual 88, 3) := by decide +kernel
theorem dX1_replace_22 : decode cX1_replace 22 = .ok (.iload_n 2, 1) := by decide +kernel
theorem dX1_replace_23 : decode cX1_replace 23 = .ok (.ireturn, 1) := by decide +kernel
theorem dX1_tellEach_0 : decode cX1_tellEach 0 = .ok (.iconst 0, 1) := by decide +kernel
theorem dX1_tellEach_1 : decode cX1_tellEach 1 = .ok (.istore_n 2, 1) := by decide +kernel
theorem dX1_tellEach_2 : decode cX1_tellEach 2 = .ok (.iload_n 2, 1) := by decide +kernel
theorem dX1_tellEach_3 : decode cX1_tellEach 3 = .ok (.bipush 7, 2) := by decide +kernel
theorem dX1_tellEach_5 : decode cX1_tellEach 5 = .ok (.if_icmp .ge 27, 3) := by decide +kernel
theorem dX1_tellEach_8 : decode cX1_tellEach 8 = .ok (.iload_n 2, 1) := by decide +kernel
theorem dX1_tellEach_9 : decode cX1_tellEach 9 = .ok (.aload_n 1, 1) := by decide +kernel
theorem dX1_tellEach_10 : decode cX1_tellEach 10 = .ok (.arraylength, 1) := by decide +kernel
theorem dX1_tellEach_11 : decode cX1_tellEach 11 = .ok (.if_icmp .ge 21, 3) := by decide +kernel
theorem dX1_tellEach_14 : decode cX1_tellEach 14 = .ok (.aload_n 1, 1) := by decide +kernel
theorem dX1_tellEach_15 : decode cX1_tellEach 15 = .ok (.iload_n 2, 1) := by decide +kernel
theorem dX1_tellEach_16 : decode cX1_tellEach 16 = .ok (.aload_n 0, 1) := by decide +kernel
theorem dX1_tellEach_17 : decode cX1_tellEach 17 = .ok (.getfield 11, 3) := by decide +kernel
theorem dX1_tellEach_20 : decode cX1_tellEach 20 = .ok (.iload_n 2, 1) := by decide +kernel
theorem dX1_tellEach_21 : decode cX1_tellEach 21 = .ok (.aaload, 1) := by decide +kernel
theorem dX1_tellEach_22 : decode cX1_tellEach 22 = .ok (.invokevirtual 60, 3) := by decide +kernel
theorem dX1_tellEach_25 : decode cX1_tellEach 25 = .ok (.iastore, 1) := by decide +kernel
theorem dX1_tellEach_26 : decode cX1_tellEach 26 = .ok (.iinc 2 1, 3) := by decide +kernel
theorem dX1_tellEach_29 : decode cX1_tellEach 29 = .ok (.goto (-27), 3) := by decide +kernel
theorem dX1_tellEach_32 : decode cX1_tellEach 32 = .ok (.return_, 1) := by decide +kernel
theorem dX1_told_0 : decode cX1_told 0 = .ok (.iconst 0, 1) := by decide +kernel
theorem dX1_told_1 : decode cX1_told 1 = .ok (.istore_n 1, 1) := by decide +kernel
theorem dX1_told_2 : decode cX1_told 2 = .ok (.aload_n 0, 1) := by decide +kernel
theorem dX1_told_3 : decode cX1_told 3 = .ok (.getfield 11, 3) := by decide +kernel
theorem dX1_told_6 : decode cX1_told 6 = .ok (.astore_n 2, 1) := by decide +kernel
theorem dX1_told_7 : decode cX1_told 7 = .ok (.aload_n 2, 1) := by decide +kernel
theorem dX1_told_8 : decode cX1_told 8 = .ok (.arraylength, 1) := by decide +kernel
theorem dX1_told_9 : decode cX1_told 9 = .ok (.istore_n 3, 1) := by decide +kernel
theorem dX1_told_10 : decode cX1_told 10 = .ok (.iconst 0, 1) := by decide +kernel
theorem dX1_told_11 : decode cX1_told 11 = .ok (.istore 4, 2) := by decide +kernel
theorem dX1_told_13 : decode cX1_told 13 = .ok (.iload 4, 2) := by decide +kernel
theorem dX1_told_15 : decode cX1_told 15 = .ok (.iload_n 3, 1) := by decide +kernel
theorem dX1_told_16 : decode cX1_told 16 = .ok (.if_icmp .ge 23, 3) := by decide +kernel
theorem dX1_told_19 : decode cX1_told 19 = .ok (.aload_n 2, 1) := by decide +kernel
theorem dX1_told_20 : decode cX1_told 20 = .ok (.iload 4, 2) := by decide +kernel
theorem dX1_told_22 : decode cX1_told 22 = .ok (.aaload, 1) := by decide +kernel
theorem dX1_told_23 : decode cX1_told 23 = .ok (.astore 5, 2) := by decide +kernel
theorem dX1_told_25 : decode cX1_told 25 = .ok (.iload_n 1, 1) := by decide +kernel
theorem dX1_told_26 : decode cX1_told 26 = .ok (.aload 5, 2) := by decide +kernel
theorem dX1_told_28 : decode cX1_told 28 = .ok (.invokevirtual 60, 3) := by decide +kernel
theorem dX1_told_31 : decode cX1_told 31 = .ok (.iadd, 1) := by decide +kernel
theorem dX1_told_32 : decode cX1_told 32 = .ok (.istore_n 1, 1) := by decide +kernel
theorem dX1_told_33 : decode cX1_told 33 = .ok (.iinc 4 1, 3) := by decide +kernel
theorem dX1_told_36 : decode cX1_told 36 = .ok (.goto (-23), 3) := by decide +kernel
theorem dX1_told_39 : decode cX1_told 39 = .ok (.iload_n 1, 1) := by decide +kernel
theorem dX1_told_40 : decode cX1_told 40 = .ok (.ireturn, 1) := by decide +kernel
theorem dX1_toldInHue_0 : decode cX1_toldInHue 0 = .ok (.iconst 0, 1) := by decide +kernel
theorem dX1_toldInHue_1 : decode cX1_toldInHue 1 = .ok (.istore_n 2, 1) := by decide +kernel
theorem dX1_toldInHue_2 : decode cX1_toldInHue 2 = .ok (.aload_n 0, 1) := by decide +kernel
theorem dX1_toldInHue_3 : decode cX1_toldInHue 3 = .ok (.getfield 11, 3) := by decide +kernel
theorem dX1_toldInHue_6 : decode cX1_toldInHue 6 = .ok (.astore_n 3, 1) := by decide +kernel
theorem dX1_toldInHue_7 : decode cX1_toldInHue 7 = .ok (.aload_n 3, 1) := by decide +kernel
theorem dX1_toldInHue_8 : decode cX1_toldInHue 8 = .ok (.arraylength, 1) := by decide +kernel
theorem dX1_toldInHue_9 : decode cX1_toldInHue 9 = .ok (.istore 4, 2) := by decide +kernel
theorem dX1_toldInHue_11 : decode cX1_toldInHue 11 = .ok (.iconst 0, 1) := by decide +kernel
theorem dX1_toldInHue_12 : decode cX1_toldInHue 12 = .ok (.istore 5, 2) := by decide +kernel
theorem dX1_toldInHue_14 : decode cX1_toldInHue 14 = .ok (.iload 5, 2) := by decide +kernel
theorem dX1_toldInHue_16 : decode cX1_toldInHue 16 = .ok (.iload 4, 2) := by decide +kernel
theorem dX1_toldInHue_18 : decode cX1_toldInHue 18 = .ok (.if_icmp .ge 32, 3) := by decide +kernel
theorem dX1_toldInHue_21 : decode cX1_toldInHue 21 = .ok (.aload_n 3, 1) := by decide +kernel
theorem dX1_toldInHue_22 : decode cX1_toldInHue 22 = .ok (.iload 5, 2) := by decide +kernel
theorem dX1_toldInHue_24 : decode cX1_toldInHue 24 = .ok (.aaload, 1) := by decide +kernel
theorem dX1_toldInHue_25 : decode cX1_toldInHue 25 = .ok (.astore 6, 2) := by decide +kernel
theorem dX1_toldInHue_27 : decode cX1_toldInHue 27 = .ok (.aload 6, 2) := by decide +kernel
theorem dX1_toldInHue_29 : decode cX1_toldInHue 29 = .ok (.getfield 91, 3) := by decide +kernel
theorem dX1_toldInHue_32 : decode cX1_toldInHue 32 = .ok (.iload_n 1, 1) := by decide +kernel
theorem dX1_toldInHue_33 : decode cX1_toldInHue 33 = .ok (.if_icmp .ne 11, 3) := by decide +kernel
theorem dX1_toldInHue_36 : decode cX1_toldInHue 36 = .ok (.iload_n 2, 1) := by decide +kernel
theorem dX1_toldInHue_37 : decode cX1_toldInHue 37 = .ok (.aload 6, 2) := by decide +kernel
theorem dX1_toldInHue_39 : decode cX1_toldInHue 39 = .ok (.invokevirtual 60, 3) := by decide +kernel
theorem dX1_toldInHue_42 : decode cX1_toldInHue 42 = .ok (.iadd, 1) := by decide +kernel
theorem dX1_toldInHue_43 : decode cX1_toldInHue 43 = .ok (.istore_n 2, 1) := by decide +kernel
theorem dX1_toldInHue_44 : decode cX1_toldInHue 44 = .ok (.iinc 5 1, 3) := by decide +kernel
theorem dX1_toldInHue_47 : decode cX1_toldInHue 47 = .ok (.goto (-33), 3) := by decide +kernel
theorem dX1_toldInHue_50 : decode cX1_toldInHue 50 = .ok (.iload_n 2, 1) := by decide +kernel
theorem dX1_toldInHue_51 : decode cX1_toldInHue 51 = .ok (.ireturn, 1) := by decide +kernel
theorem dX1_knots_0 : decode cX1_knots 0 = .ok (.iconst 0, 1) := by decide +kernel
theorem dX1_knots_1 : decode cX1_knots 1 = .ok (.istore_n 1, 1) := by decide +kernel
theorem dX1_knots_2 : decode cX1_knots 2 = .ok (.aload_n 0, 1) := by decide +kernel
theorem dX1_knots_3 : decode cX1_knots 3 = .ok (.getfield 11, 3) := by decide +kernel
theorem dX1_knots_6 : decode cX1_knots 6 = .ok (.astore_n 2, 1) := by decide +kernel
theorem dX1_knots_7 : decode cX1_knots 7 = .ok (.aload_n 2, 1) := by decide +kernel
theorem dX1_knots_8 : decode cX1_knots 8 = .ok (.arraylength, 1) := by decide +kernel
theorem dX1_knots_9 : decode cX1_knots 9 = .ok (.istore_n 3, 1) := by decide +kernel
theorem dX1_knots_10 : decode cX1_knots 10 = .ok (.iconst 0, 1) := by decide +kernel
theorem dX1_knots_11 : decode cX1_knots 11 = .ok (.istore 4, 2) := by decide +kernel
theorem dX1_knots_13 : decode cX1_knots 13 = .ok (.iload 4, 2) := by decide +kernel
theorem dX1_knots_15 : decode cX1_knots 15 = .ok (.iload_n 3, 1) := by decide +kernel
theorem dX1_knots_16 : decode cX1_knots 16 = .ok (.if_icmp .ge 23, 3) := by decide +kernel
theorem dX1_knots_19 : decode cX1_knots 19 = .ok (.aload_n 2, 1) := by decide +kernel
theorem dX1_knots_20 : decode cX1_knots 20 = .ok (.iload 4, 2) := by decide +kernel
theorem dX1_knots_22 : decode cX1_knots 22 = .ok (.aaload, 1) := by decide +kernel
theorem dX1_knots_23 : decode cX1_knots 23 = .ok (.astore 5, 2) := by decide +kernel
theorem dX1_knots_25 : decode cX1_knots 25 = .ok (.iload_n 1, 1) := by decide +kernel
theorem dX1_knots_26 : decode cX1_knots 26 = .ok (.aload 5, 2) := by decide +kernel
theorem dX1_knots_28 : decode cX1_knots 28 = .ok (.invokevirtual 45, 3) := by decide +kernel
theorem dX1_knots_31 : decode cX1_knots 31 = .ok (.iadd, 1) := by decide +kernel
theorem dX1_knots_32 : decode cX1_knots 32 = .ok (.istore_n 1, 1) := by decide +kernel
theorem dX1_knots_33 : decode cX1_knots 33 = .ok (.iinc 4 1, 3) := by decide +kernel
theorem dX1_knots_36 : decode cX1_knots 36 = .ok (.goto (-23), 3) := by decide +kernel
theorem dX1_knots_39 : decode cX1_knots 39 = .ok (.iload_n 1, 1) := by decide +kernel
theorem dX1_knots_40 : decode cX1_knots 40 = .ok (.ireturn, 1) := by decide +kernel
theorem dX1_loops_0 : decode cX1_loops 0 = .ok (.iconst 0, 1) := by decide +kernel
theorem dX1_loops_1 : decode cX1_loops 1 = .ok (.istore_n 1, 1) := by decide +kernel
theorem dX1_loops_2 : decode cX1_loops 2 = .ok (.aload_n 0, 1) := by decide +kernel
theorem dX1_loops_3 : decode cX1_loops 3 = .ok (.getfield 11, 3) := by decide +kernel
theorem dX1_loops_6 : decode cX1_loops 6 = .ok (.astore_n 2, 1) := by decide +kernel
theorem dX1_loops_7 : decode cX1_loops 7 = .ok (.aload_n 2, 1) := by decide +kernel
theorem dX1_loops_8 : decode cX1_loops 8 = .ok (.arraylength, 1) := by decide +kernel
theorem dX1_loops_9 : decode cX1_loops 9 = .ok (.istore_n 3, 1) := by decide +kernel
theorem dX1_loops_10 : decode cX1_loops 10 = .ok (.iconst 0, 1) := by decide +kernel
theorem dX1_loops_11 : decode cX1_loops 11 = .ok (.istore 4, 2) := by decide +kernel
theorem dX1_loops_13 : decode cX1_loops 13 = .ok (.iload 4, 2) := by decide +kernel
theorem dX1_loops_15 : decode cX1_loops 15 = .ok (.iload_n 3, 1) := by decide +kernel
theorem dX1_loops_16 : decode cX1_loops 16 = .ok (.if_icmp .ge 23, 3) := by decide +kernel
theorem dX1_loops_19 : decode cX1_loops 19 = .ok (.aload_n 2, 1) := by decide +kernel
theorem dX1_loops_20 : decode cX1_loops 20 = .ok (.iload 4, 2) := by decide +kernel
theorem dX1_loops_22 : decode cX1_loops 22 = .ok (.aaload, 1) := by decide +kernel
theorem dX1_loops_23 : decode cX1_loops 23 = .ok (.astore 5, 2) := by decide +kernel
theorem dX1_loops_25 : decode cX1_loops 25 = .ok (.iload_n 1, 1) := by decide +kernel
theorem dX1_loops_26 : decode cX1_loops 26 = .ok (.aload 5, 2) := by decide +kernel
theorem dX1_loops_28 : decode cX1_loops 28 = .ok (.invokevirtual 49, 3) := by decide +kernel
theorem dX1_loops_31 : decode cX1_loops 31 = .ok (.iadd, 1) := by decide +kernel
theorem dX1_loops_32 : decode cX1_loops 32 = .ok (.istore_n 1, 1) := by decide +kernel
theorem dX1_loops_33 : decode cX1_loops 33 = .ok (.iinc 4 1, 3) := by decide +kernel
theorem dX1_loops_36 : decode cX1_loops 36 = .ok (.goto (-23), 3) := by decide +kernel
theorem dX1_loops_39 : decode cX1_loops 39 = .ok (.iload_n 1, 1) := by decide +kernel
theorem dX1_loops_40 : decode cX1_loops 40 = .ok (.ireturn, 1) := by decide +kernel
theorem dX1_ties_0 : decode cX1_ties 0 = .ok (.aload_n 0, 1) := by decide +kernel
theorem dX1_ties_1 : decode cX1_ties 1 = .ok (.invokevirtual 94, 3) := by decide +kernel
theorem dX1_ties_4 : decode cX1_ties 4 = .ok (.aload_n 0, 1) := by decide +kernel
theorem dX1_ties_5 : decode cX1_ties 5 = .ok (.invokevirtual 96, 3) := by decide +kernel
theorem dX1_ties_8 : decode cX1_ties 8 = .ok (.iadd, 1) := by decide +kernel
theorem dX1_ties_9 : decode cX1_ties 9 = .ok (.ireturn, 1) := by decide +kernel
theorem dX1_lacking_0 : decode cX1_lacking 0 = .ok (.iconst 0, 1) := by decide +kernel
theorem dX1_lacking_1 : decode cX1_lacking 1 = .ok (.istore_n 1, 1) := by decide +kernel
theorem dX1_lacking_2 : decode cX1_lacking 2 = .ok (.aload_n 0, 1) := by decide +kernel
theorem dX1_lacking_3 : decode cX1_lacking 3 = .ok (.getfield 11, 3) := by decide +kernel
theorem dX1_lacking_6 : decode cX1_lacking 6 = .ok (.astore_n 2, 1) := by decide +kernel
theorem dX1_lacking_7 : decode cX1_lacking 7 = .ok (.aload_n 2, 1) := by decide +kernel
theorem dX1_lacking_8 : decode cX1_lacking 8 = .ok (.arraylength, 1) := by decide +kernel
theorem dX1_lacking_9 : decode cX1_lacking 9 = .ok (.istore_n 3, 1) := by decide +kernel
theorem dX1_lacking_10 : decode cX1_lacking 10 = .ok (.iconst 0, 1) := by decide +kernel
theorem dX1_lacking_11 : decode cX1_lacking 11 = .ok (.istore 4, 2) := by decide +kernel
theorem dX1_lacking_13 : decode cX1_lacking 13 = .ok (.iload 4, 2) := by decide +kernel
theorem dX1_lacking_15 : decode cX1_lacking 15 = .ok (.iload_n 3, 1) := by decide +kernel
theorem dX1_lacking_16 : decode cX1_lacking 16 = .ok (.if_icmp .ge 26, 3) := by decide +kernel
theorem dX1_lacking_19 : decode cX1_lacking 19 = .ok (.aload_n 2, 1) := by decide +kernel
theorem dX1_lacking_20 : decode cX1_lacking 20 = .ok (.iload 4, 2) := by decide +kernel
theorem dX1_lacking_22 : decode cX1_lacking 22 = .ok (.aaload, 1) := by decide +kernel
theorem dX1_lacking_23 : decode cX1_lacking 23 = .ok (.astore 5, 2) := by decide +kernel
theorem dX1_lacking_25 : decode cX1_lacking 25 = .ok (.aload 5, 2) := by decide +kernel
theorem dX1_lacking_27 : decode cX1_lacking 27 = .ok (.invokevirtual 67, 3) := by decide +kernel
theorem dX1_lacking_30 : decode cX1_lacking 30 = .ok (.ifCond .le 6, 3) := by decide +kernel
theorem dX1_lacking_33 : decode cX1_lacking 33 = .ok (.iinc 1 1, 3) := by decide +kernel
theorem dX1_lacking_36 : decode cX1_lacking 36 = .ok (.iinc 4 1, 3) := by decide +kernel
theorem dX1_lacking_39 : decode cX1_lacking 39 = .ok (.goto (-26), 3) := by decide +kernel
theorem dX1_lacking_42 : decode cX1_lacking 42 = .ok (.iload_n 1, 1) := by decide +kernel
theorem dX1_lacking_43 : decode cX1_lacking 43 = .ok (.ireturn, 1) := by decide +kernel
theorem dX1_fullestCord_0 : decode cX1_fullestCord 0 = .ok (.iconst 0, 1) := by decide +kernel
theorem dX1_fullestCord_1 : decode cX1_fullestCord 1 = .ok (.istore_n 1, 1) := by decide +kernel
theorem dX1_fullestCord_2 : decode cX1_fullestCord 2 = .ok (.iconst 1, 1) := by decide +kernel
theorem dX1_fullestCord_3 : decode cX1_fullestCord 3 = .ok (.istore_n 2, 1) := by decide +kernel
theorem dX1_fullestCord_4 : decode cX1_fullestCord 4 = .ok (.iload_n 2, 1) := by decide +kernel
theorem dX1_fullestCord_5 : decode cX1_fullestCord 5 = .ok (.bipush 7, 2) := by decide +kernel
theorem dX1_fullestCord_7 : decode cX1_fullestCord 7 = .ok (.if_icmp .ge 32, 3) := by decide +kernel
theorem dX1_fullestCord_10 : decode cX1_fullestCord 10 = .ok (.aload_n 0, 1) := by decide +kernel
theorem dX1_fullestCord_11 : decode cX1_fullestCord 11 = .ok (.getfield 11, 3) := by decide +kernel
theorem dX1_fullestCord_14 : decode cX1_fullestCord 14 = .ok (.iload_n 2, 1) := by decide +kernel
theorem dX1_fullestCord_15 : decode cX1_fullestCord 15 = .ok (.aaload, 1) := by decide +kernel
theorem dX1_fullestCord_16 : decode cX1_fullestCord 16 = .ok (.invokevirtual 85, 3) := by decide +kernel
theorem dX1_fullestCord_19 : decode cX1_fullestCord 19 = .ok (.aload_n 0, 1) := by decide +kernel
theorem dX1_fullestCord_20 : decode cX1_fullestCord 20 = .ok (.getfield 11, 3) := by decide +kernel
theorem dX1_fullestCord_23 : decode cX1_fullestCord 23 = .ok (.iload_n 1, 1) := by decide +kernel
theorem dX1_fullestCord_24 : decode cX1_fullestCord 24 = .ok (.aaload, 1) := by decide +kernel
theorem dX1_fullestCord_25 : decode cX1_fullestCord 25 = .ok (.invokevirtual 85, 3) := by decide +kernel
theorem dX1_fullestCord_28 : decode cX1_fullestCord 28 = .ok (.if_icmp .le 5, 3) := by decide +kernel
theorem dX1_fullestCord_31 : decode cX1_fullestCord 31 = .ok (.iload_n 2, 1) := by decide +kernel
theorem dX1_fullestCord_32 : decode cX1_fullestCord 32 = .ok (.istore_n 1, 1) := by decide +kernel
theorem dX1_fullestCord_33 : decode cX1_fullestCord 33 = .ok (.iinc 2 1, 3) := by decide +kernel
theorem dX1_fullestCord_36 : decode cX1_fullestCord 36 = .ok (.goto (-32), 3) := by decide +kernel
theorem dX1_fullestCord_39 : decode cX1_fullestCord 39 = .ok (.iload_n 1, 1) := by decide +kernel
theorem dX1_fullestCord_40 : decode cX1_fullestCord 40 = .ok (.ireturn, 1) := by decide +kernel
theorem dX2_init_0 : decode cX2_init 0 = .ok (.aload_n 0, 1) := by decide +kernel
theorem dX2_init_1 : decode cX2_init 1 = .ok (.invokespecial 3, 3) := by decide +kernel
theorem dX2_init_4 : decode cX2_init 4 = .ok (.aload_n 0, 1) := by decide +kernel
theorem dX2_init_5 : decode cX2_init 5 = .ok (.bipush 6, 2) := by decide +kernel
theorem dX2_init_7 : decode cX2_init 7 = .ok (.anewarray 9, 3) := by decide +kernel
theorem dX2_init_10 : decode cX2_init 10 = .ok (.putfield 11, 3) := by decide +kernel
theorem dX2_init_13 : decode cX2_init 13 = .ok (.aload_n 0, 1) := by decide +kernel
theorem dX2_init_14 : decode cX2_init 14 = .ok (.iconst 0, 1) := by decide +kernel
theorem dX2_init_15 : decode cX2_init 15 = .ok (.putfield 17, 3) := by decide +kernel
theorem dX2_init_18 : decode cX2_init 18 = .ok (.aload_n 0, 1) := by decide +kernel
theorem dX2_init_19 : decode cX2_init 19 = .ok (.iconst 0, 1) := by decide +kernel
theorem dX2_init_20 : decode cX2_init 20 = .ok (.putfield 21, 3) := by decide +kernel
theorem dX2_init_23 : decode cX2_init 23 = .ok (.iconst 0, 1) := by decide +kernel
theorem dX2_init_24 : decode cX2_init 24 = .ok (.istore_n 1, 1) := by decide +kernel
theorem dX2_init_25 : decode cX2_init 25 = .ok (.iload_n 1, 1) := by decide +kernel
theorem dX2_init_26 : decode cX2_init 26 = .ok (.bipush 6, 2) := by decide +kernel
theorem dX2_init_28 : decode cX2_init 28 = .ok (.if_icmp .ge 22, 3) := by decide +kernel
theorem dX2_init_31 : decode cX2_init 31 = .ok (.aload_n 0, 1) := by decide +kernel
theorem dX2_init_32 : decode cX2_init 32 = .ok (.getfield 11, 3) := by decide +kernel
theorem dX2_init_35 : decode cX2_init 35 = .ok (.iload_n 1, 1) := by decide +kernel
theorem dX2_init_36 : decode cX2_init 36 = .ok (.new 9, 3) := by decide +kernel
theorem dX2_init_39 : decode cX2_init 39 = .ok (.dup, 1) := by decide +kernel
theorem dX2_init_40 : decode cX2_init 40 = .ok (.invokespecial 24, 3) := by decide +kernel
theorem dX2_init_43 : decode cX2_init 43 = .ok (.aastore, 1) := by decide +kernel
theorem dX2_init_44 : decode cX2_init 44 = .ok (.iinc 1 1, 3) := by decide +kernel
theorem dX2_init_47 : decode cX2_init 47 = .ok (.goto (-22), 3) := by decide +kernel
theorem dX2_init_50 : decode cX2_init 50 = .ok (.return_, 1) := by decide +kernel
theorem dX2_save_0 : decode cX2_save 0 = .ok (.aload_n 0, 1) := by decide +kernel
theorem dX2_save_1 : decode cX2_save 1 = .ok (.getfield 11, 3) := by decide +kernel
theorem dX2_save_4 : decode cX2_save 4 = .ok (.aload_n 0, 1) := by decide +kernel
theorem dX2_save_5 : decode cX2_save 5 = .ok (.getfield 17, 3) := by decide +kernel
theorem dX2_save_8 : decode cX2_save 8 = .ok (.aaload, 1) := by decide +kernel
theorem dX2_save_9 : decode cX2_save 9 = .ok (.aload_n 1, 1) := by decide +kernel
theorem dX2_save_10 : decode cX2_save 10 = .ok (.invokevirtual 25, 3) := by decide +kernel
theorem dX2_save_13 : decode cX2_save 13 = .ok (.aload_n 0, 1) := by decide +kernel
theorem dX2_save_14 : decode cX2_save 14 = .ok (.aload_n 0, 1) := by decide +kernel
theorem dX2_save_15 : decode cX2_save 15 = .ok (.getfield 17, 3) := by decide +kernel
theorem dX2_save_18 : decode cX2_save 18 = .ok (.iconst 1, 1) := by decide +kernel
theorem dX2_save_19 : decode cX2_save 19 = .ok (.iadd, 1) := by decide +kernel
theorem dX2_save_20 : decode cX2_save 20 = .ok (.bipush 6, 2) := by decide +kernel
theorem dX2_save_22 : decode cX2_save 22 = .ok (.irem, 1) := by decide +kernel
theorem dX2_save_23 : decode cX2_save 23 = .ok (.putfield 17, 3) := by decide +kernel
theorem dX2_save_26 : decode cX2_save 26 = .ok (.aload_n 0, 1) := by decide +kernel
theorem dX2_save_27 : decode cX2_save 27 = .ok (.aload_n 0, 1) := by decide +kernel
theorem dX2_save_28 : decode cX2_save 28 = .ok (.getfield 21, 3) := by decide +kernel
theorem dX2_save_31 : decode cX2_save 31 = .ok (.iconst 1, 1) := by decide +kernel
theorem dX2_save_32 : decode cX2_save 32 = .ok (.iadd, 1) := by decide +kernel
theorem dX2_save_33 : decode cX2_save 33 = .ok (.bipush 6, 2) := by decide +kernel
theorem dX2_save_35 : decode cX2_save 35 = .ok (.invokestatic 29, 3) := by decide +kernel
theorem dX2_save_38 : decode cX2_save 38 = .ok (.putfield 21, 3) := by decide +kernel
theorem dX2_save_41 : decode cX2_save 41 = .ok (.return_, 1) := by decide +kernel
theorem dX2_restore_0 : decode cX2_restore 0 = .ok (.aload_n 0, 1) := by decide +kernel
theorem dX2_restore_1 : decode cX2_restore 1 = .ok (.getfield 21, 3) := by decide +kernel
theorem dX2_restore_4 : decode cX2_restore 4 = .ok (.ifCond .le 42, 3) := by decide +kernel
theorem dX2_restore_7 : decode cX2_restore 7 = .ok (.aload_n 0, 1) := by decide +kernel
theorem dX2_restore_8 : decode cX2_restore 8 = .ok (.dup, 1) := by decide +kernel
theorem dX2_restore_9 : decode cX2_restore 9 = .ok (.getfield 21, 3) := by decide +kernel
theorem dX2_restore_12 : decode cX2_restore 12 = .ok (.iconst 1, 1) := by decide +kernel
theorem dX2_restore_13 : decode cX2_restore 13 = .ok (.isub, 1) := by decide +kernel
theorem dX2_restore_14 : decode cX2_restore 14 = .ok (.putfield 21, 3) := by decide +kernel
theorem dX2_restore_17 : decode cX2_restore 17 = .ok (.aload_n 0, 1) := by decide +kernel
theorem dX2_restore_18 : decode cX2_restore 18 = .ok (.aload_n 0, 1) := by decide +kernel
theorem dX2_restore_19 : decode cX2_restore 19 = .ok (.getfield 17, 3) := by decide +kernel
theorem dX2_restore_22 : decode cX2_restore 22 = .ok (.bipush 6, 2) := by decide +kernel
theorem dX2_restore_24 : decode cX2_restore 24 = .ok (.iadd, 1) := by decide +kernel
theorem dX2_restore_25 : decode cX2_restore 25 = .ok (.iconst 1, 1) := by decide +kernel
theorem dX2_restore_26 : decode cX2_restore 26 = .ok (.isub, 1) := by decide +kernel
theorem dX2_restore_27 : decode cX2_restore 27 = .ok (.bipush 6, 2) := by decide +kernel
theorem dX2_restore_29 : decode cX2_restore 29 = .ok (.irem, 1) := by decide +kernel
theorem dX2_restore_30 : decode cX2_restore 30 = .ok (.putfield 17, 3) := by decide +kernel
theorem dX2_restore_33 : decode cX2_restore 33 = .ok (.aload_n 1, 1) := by decide +kernel
theorem dX2_restore_34 : decode cX2_restore 34 = .ok (.aload_n 0, 1) := by decide +kernel
theorem dX2_restore_35 : decode cX2_restore 35 = .ok (.getfield 11, 3) := by decide +kernel
theorem dX2_restore_38 : decode cX2_restore 38 = .ok (.aload_n 0, 1) := by decide +kernel
theorem dX2_restore_39 : decode cX2_restore 39 = .ok (.getfield 17, 3) := by decide +kernel
theorem dX2_restore_42 : decode cX2_restore 42 = .ok (.aaload, 1) := by decide +kernel
theorem dX2_restore_43 : decode cX2_restore 43 = .ok (.invokevirtual 25, 3) := by decide +kernel
theorem dX2_restore_46 : decode cX2_restore 46 = .ok (.return_, 1) := by decide +kernel
theorem dX3_init_0 : decode cX3_init 0 = .ok (.aload_n 0, 1) := by decide +kernel
theorem dX3_init_1 : decode cX3_init 1 = .ok (.invokespecial 3, 3) := by decide +kernel
theorem dX3_init_4 : decode cX3_init 4 = .ok (.aload_n 0, 1) := by decide +kernel
theorem dX3_init_5 : decode cX3_init 5 = .ok (.iconst 0, 1) := by decide +kernel
theorem dX3_init_6 : decode cX3_init 6 = .ok (.putfield 11, 3) := by decide +kernel
theorem dX3_init_9 : decode cX3_init 9 = .ok (.aload_n 0, 1) := by decide +kernel
theorem dX3_init_10 : decode cX3_init 10 = .ok (.iconst 0, 1) := by decide +kernel
theorem dX3_init_11 : decode cX3_init 11 = .ok (.putfield 15, 3) := by decide +kernel
theorem dX3_init_14 : decode cX3_init 14 = .ok (.aload_n 0, 1) := by decide +kernel
theorem dX3_init_15 : decode cX3_init 15 = .ok (.iconst 0, 1) := by decide +kernel
theorem dX3_init_16 : decode cX3_init 16 = .ok (.putfield 18, 3) := by decide +kernel
theorem dX3_init_19 : decode cX3_init 19 = .ok (.aload_n 0, 1) := by decide +kernel
theorem dX3_init_20 : decode cX3_init 20 = .ok (.bipush 43, 2) := by decide +kernel
theorem dX3_init_22 : decode cX3_init 22 = .ok (.putfield 21, 3) := by decide +kernel
theorem dX3_init_25 : decode cX3_init 25 = .ok (.aload_n 0, 1) := by decide +kernel
theorem dX3_init_26 : decode cX3_init 26 = .ok (.iconst 0, 1) := by decide +kernel
theorem dX3_init_27 : decode cX3_init 27 = .ok (.putfield 25, 3) := by decide +kernel
theorem dX3_init_30 : decode cX3_init 30 = .ok (.return_, 1) := by decide +kernel
theorem dX4_init_0 : decode cX4_init 0 = .ok (.aload_n 0, 1) := by decide +kernel
theorem dX4_init_1 : decode cX4_init 1 = .ok (.invokespecial 1, 3) := by decide +kernel
theorem dX4_init_4 : decode cX4_init 4 = .ok (.aload_n 0, 1) := by decide +kernel
theorem dX4_init_5 : decode cX4_init 5 = .ok (.new 7, 3) := by decide +kernel
theorem dX4_init_8 : decode cX4_init 8 = .ok (.dup, 1) := by decide +kernel
theorem dX4_init_9 : decode cX4_init 9 = .ok (.invokespecial 9, 3) := by decide +kernel
theorem dX4_init_12 : decode cX4_init 12 = .ok (.putfield 10, 3) := by decide +kernel
theorem dX4_init_15 : decode cX4_init 15 = .ok (.aload_n 0, 1) := by decide +kernel
theorem dX4_init_16 : decode cX4_init 16 = .ok (.new 16, 3) := by decide +kernel
theorem dX4_init_19 : decode cX4_init 19 = .ok (.dup, 1) := by decide +kernel
theorem dX4_init_20 : decode cX4_init 20 = .ok (.invokespecial 18, 3) := by decide +kernel
theorem dX4_init_23 : decode cX4_init 23 = .ok (.putfield 19, 3) := by decide +kernel
theorem dX4_init_26 : decode cX4_init 26 = .ok (.aload_n 0, 1) := by decide +kernel
theorem dX4_init_27 : decode cX4_init 27 = .ok (.iconst 2, 1) := by decide +kernel
theorem dX4_init_28 : decode cX4_init 28 = .ok (.anewarray 7, 3) := by decide +kernel
theorem dX4_init_31 : decode cX4_init 31 = .ok (.putfield 23, 3) := by decide +kernel
theorem dX4_init_34 : decode cX4_init 34 = .ok (.aload_n 0, 1) := by decide +kernel
theorem dX4_init_35 : decode cX4_init 35 = .ok (.bipush 60, 2) := by decide +kernel
theorem dX4_init_37 : decode cX4_init 37 = .ok (.newarray .char, 2) := by decide +kernel
theorem dX4_init_39 : decode cX4_init 39 = .ok (.putfield 27, 3) := by decide +kernel
theorem dX4_init_42 : decode cX4_init 42 = .ok (.aload_n 0, 1) := by decide +kernel
theorem dX4_init_43 : decode cX4_init 43 = .ok (.iconst 0, 1) := by decide +kernel
theorem dX4_init_44 : decode cX4_init 44 = .ok (.putfield 31, 3) := by decide +kernel
theorem dX4_init_47 : decode cX4_init 47 = .ok (.aload_n 0, 1) := by decide +kernel
theorem dX4_init_48 : decode cX4_init 48 = .ok (.new 35, 3) := by decide +kernel
theorem dX4_init_51 : decode cX4_init 51 = .ok (.dup, 1) := by decide +kernel
theorem dX4_init_52 : decode cX4_init 52 = .ok (.invokespecial 37, 3) := by decide +kernel
theorem dX4_init_55 : decode cX4_init 55 = .ok (.putfield 38, 3) := by decide +kernel
theorem dX4_init_58 : decode cX4_init 58 = .ok (.aload_n 0, 1) := by decide +kernel
theorem dX4_init_59 : decode cX4_init 59 = .ok (.new 42, 3) := by decide +kernel
theorem dX4_init_62 : decode cX4_init 62 = .ok (.dup, 1) := by decide +kernel
theorem dX4_init_63 : decode cX4_init 63 = .ok (.invokespecial 44, 3) := by decide +kernel
theorem dX4_init_66 : decode cX4_init 66 = .ok (.putfield 45, 3) := by decide +kernel
theorem dX4_init_69 : decode cX4_init 69 = .ok (.aload_n 0, 1) := by decide +kernel
theorem dX4_init_70 : decode cX4_init 70 = .ok (.bipush 7, 2) := by decide +kernel
theorem dX4_init_72 : decode cX4_init 72 = .ok (.newarray .int, 2) := by decide +kernel
theorem dX4_init_74 : decode cX4_init 74 = .ok (.putfield 49, 3) := by decide +kernel
theorem dX4_init_77 : decode cX4_init 77 = .ok (.return_, 1) := by decide +kernel
theorem dX4_tie_0 : decode cX4_tie 0 = .ok (.aload_n 0, 1) := by decide +kernel
theorem dX4_tie_1 : decode cX4_tie 1 = .ok (.iload_n 1, 1) := by decide +kernel
theorem dX4_tie_2 : decode cX4_tie 2 = .ok (.invokevirtual 53, 3) := by decide +kernel
theorem dX4_tie_5 : decode cX4_tie 5 = .ok (.astore_n 3, 1) := by decide +kernel
theorem dX4_tie_6 : decode cX4_tie 6 = .ok (.iload_n 2, 1) := by decide +kernel
theorem dX4_tie_7 : decode cX4_tie 7 = .ok (.invokestatic 57, 3) := by decide +kernel
theorem dX4_tie_10 : decode cX4_tie 10 = .ok (.aload_n 0, 1) := by decide +kernel
theorem dX4_tie_11 : decode cX4_tie 11 = .ok (.getfield 19, 3) := by decide +kernel
theorem dX4_tie_14 : decode cX4_tie 14 = .ok (.aload_n 0, 1) := by decide +kernel
theorem dX4_tie_15 : decode cX4_tie 15 = .ok (.getfield 10, 3) := by decide +kernel
theorem dX4_tie_18 : decode cX4_tie 18 = .ok (.invokevirtual 61, 3) := by decide +kernel
theorem dX4_tie_21 : decode cX4_tie 21 = .ok (.aload_n 0, 1) := by decide +kernel
theorem dX4_tie_22 : decode cX4_tie 22 = .ok (.getfield 10, 3) := by decide +kernel
theorem dX4_tie_25 : decode cX4_tie 25 = .ok (.aload_n 3, 1) := by decide +kernel
theorem dX4_tie_26 : decode cX4_tie 26 = .ok (.iload_n 2, 1) := by decide +kernel
theorem dX4_tie_27 : decode cX4_tie 27 = .ok (.invokevirtual 65, 3) := by decide +kernel
theorem dX4_tie_30 : decode cX4_tie 30 = .ok (.ireturn, 1) := by decide +kernel
theorem dX4_add_0 : decode cX4_add 0 = .ok (.aload_n 0, 1) := by decide +kernel
theorem dX4_add_1 : decode cX4_add 1 = .ok (.iload_n 1, 1) := by decide +kernel
theorem dX4_add_2 : decode cX4_add 2 = .ok (.invokevirtual 53, 3) := by decide +kernel
theorem dX4_add_5 : decode cX4_add 5 = .ok (.astore_n 3, 1) := by decide +kernel
theorem dX4_add_6 : decode cX4_add 6 = .ok (.aload_n 0, 1) := by decide +kernel
theorem dX4_add_7 : decode cX4_add 7 = .ok (.iload_n 2, 1) := by decide +kernel
theorem dX4_add_8 : decode cX4_add 8 = .ok (.invokevirtual 53, 3) := by decide +kernel
theorem dX4_add_11 : decode cX4_add 11 = .ok (.astore 4, 2) := by decide +kernel
theorem dX4_add_13 : decode cX4_add 13 = .ok (.iload_n 1, 1) := by decide +kernel
theorem dX4_add_14 : decode cX4_add 14 = .ok (.iload_n 2, 1) := by decide +kernel
theorem dX4_add_15 : decode cX4_add 15 = .ok (.if_icmp .ne 13, 3) := by decide +kernel
theorem dX4_add_18 : decode cX4_add 18 = .ok (.new 69, 3) := by decide +kernel
theorem dX4_add_21 : decode cX4_add 21 = .ok (.dup, 1) := by decide +kernel
theorem dX4_add_22 : decode cX4_add 22 = .ok (.ldc 71, 2) := by decide +kernel
theorem dX4_add_24 : decode cX4_add 24 = .ok (.invokespecial 73, 3) := by decide +kernel
theorem dX4_add_27 : decode cX4_add 27 = .ok (.athrow, 1) := by decide +kernel
theorem dX4_add_28 : decode cX4_add 28 = .ok (.aload_n 0, 1) := by decide +kernel
theorem dX4_add_29 : decode cX4_add 29 = .ok (.getfield 19, 3) := by decide +kernel
theorem dX4_add_32 : decode cX4_add 32 = .ok (.aload_n 0, 1) := by decide +kernel
theorem dX4_add_33 : decode cX4_add 33 = .ok (.getfield 10, 3) := by decide +kernel
theorem dX4_add_36 : decode cX4_add 36 = .ok (.invokevirtual 61, 3) := by decide +kernel
theorem dX4_add_39 : decode cX4_add 39 = .ok (.aload_n 0, 1) := by decide +kernel
theorem dX4_add_40 : decode cX4_add 40 = .ok (.getfield 10, 3) := by decide +kernel
theorem dX4_add_43 : decode cX4_add 43 = .ok (.aload_n 3, 1) := by decide +kernel
theorem dX4_add_44 : decode cX4_add 44 = .ok (.aload 4, 2) := by decide +kernel
theorem dX4_add_46 : decode cX4_add 46 = .ok (.invokevirtual 76, 3) := by decide +kernel
theorem dX4_add_49 : decode cX4_add 49 = .ok (.ireturn, 1) := by decide +kernel
theorem dX4_slip_0 : decode cX4_slip 0 = .ok (.aload_n 0, 1) := by decide +kernel
theorem dX4_slip_1 : decode cX4_slip 1 = .ok (.iload_n 1, 1) := by decide +kernel
theorem dX4_slip_2 : decode cX4_slip 2 = .ok (.invokevirtual 53, 3) := by decide +kernel
theorem dX4_slip_5 : decode cX4_slip 5 = .ok (.astore_n 3, 1) := by decide +kernel
theorem dX4_slip_6 : decode cX4_slip 6 = .ok (.iload_n 2, 1) := by decide +kernel
theorem dX4_slip_7 : decode cX4_slip 7 = .ok (.invokestatic 80, 3) := by decide +kernel
theorem dX4_slip_10 : decode cX4_slip 10 = .ok (.aload_n 0, 1) := by decide +kernel
theorem dX4_slip_11 : decode cX4_slip 11 = .ok (.getfield 19, 3) := by decide +kernel
theorem dX4_slip_14 : decode cX4_slip 14 = .ok (.aload_n 0, 1) := by decide +kernel
theorem dX4_slip_15 : decode cX4_slip 15 = .ok (.getfield 10, 3) := by decide +kernel
theorem dX4_slip_18 : decode cX4_slip 18 = .ok (.invokevirtual 61, 3) := by decide +kernel
theorem dX4_slip_21 : decode cX4_slip 21 = .ok (.aload_n 0, 1) := by decide +kernel
theorem dX4_slip_22 : decode cX4_slip 22 = .ok (.getfield 10, 3) := by decide +kernel
theorem dX4_slip_25 : decode cX4_slip 25 = .ok (.aload_n 3, 1) := by decide +kernel
theorem dX4_slip_26 : decode cX4_slip 26 = .ok (.iload_n 2, 1) := by decide +kernel
theorem dX4_slip_27 : decode cX4_slip 27 = .ok (.invokevirtual 83, 3) := by decide +kernel
theorem dX4_slip_30 : decode cX4_slip 30 = .ok (.ireturn, 1) := by decide +kernel
theorem dX4_mend_0 : decode cX4_mend 0 = .ok (.aload_n 0, 1) := by decide +kernel
theorem dX4_mend_1 : decode cX4_mend 1 = .ok (.iload_n 1, 1) := by decide +kernel
theorem dX4_mend_2 : decode cX4_mend 2 = .ok (.invokevirtual 53, 3) := by decide +kernel
theorem dX4_mend_5 : decode cX4_mend 5 = .ok (.astore_n 2, 1) := by decide +kernel
theorem dX4_mend_6 : decode cX4_mend 6 = .ok (.aload_n 0, 1) := by decide +kernel
theorem dX4_mend_7 : decode cX4_mend 7 = .ok (.getfield 19, 3) := by decide +kernel
theorem dX4_mend_10 : decode cX4_mend 10 = .ok (.aload_n 0, 1) := by decide +kernel
theorem dX4_mend_11 : decode cX4_mend 11 = .ok (.getfield 10, 3) := by decide +kernel
theorem dX4_mend_14 : decode cX4_mend 14 = .ok (.invokevirtual 61, 3) := by decide +kernel
theorem dX4_mend_17 : decode cX4_mend 17 = .ok (.aload_n 0, 1) := by decide +kernel
theorem dX4_mend_18 : decode cX4_mend 18 = .ok (.getfield 10, 3) := by decide +kernel
theorem dX4_mend_21 : decode cX4_mend 21 = .ok (.aload_n 2, 1) := by decide +kernel
theorem dX4_mend_22 : decode cX4_mend 22 = .ok (.invokevirtual 86, 3) := by decide +kernel
theorem dX4_mend_25 : decode cX4_mend 25 = .ok (.ireturn, 1) := by decide +kernel
theorem dX4_renew_0 : decode cX4_renew 0 = .ok (.aload_n 0, 1) := by decide +kernel
theorem dX4_renew_1 : decode cX4_renew 1 = .ok (.iload_n 1, 1) := by decide +kernel
theorem dX4_renew_2 : decode cX4_renew 2 = .ok (.invokevirtual 53, 3) := by decide +kernel
theorem dX4_renew_5 : decode cX4_renew 5 = .ok (.astore_n 2, 1) := by decide +kernel
theorem dX4_renew_6 : decode cX4_renew 6 = .ok (.aload_n 0, 1) := by decide +kernel
theorem dX4_renew_7 : decode cX4_renew 7 = .ok (.getfield 19, 3) := by decide +kernel
theorem dX4_renew_10 : decode cX4_renew 10 = .ok (.aload_n 0, 1) := by decide +kernel
theorem dX4_renew_11 : decode cX4_renew 11 = .ok (.getfield 10, 3) := by decide +kernel
theorem dX4_renew_14 : decode cX4_renew 14 = .ok (.invokevirtual 61, 3) := by decide +kernel
theorem dX4_renew_17 : decode cX4_renew 17 = .ok (.aload_n 0, 1) := by decide +kernel
theorem dX4_renew_18 : decode cX4_renew 18 = .ok (.getfield 10, 3) := by decide +kernel
theorem dX4_renew_21 : decode cX4_renew 21 = .ok (.aload_n 2, 1) := by decide +kernel
theorem dX4_renew_22 : decode cX4_renew 22 = .ok (.invokevirtual 90, 3) := by decide +kernel
theorem dX4_renew_25 : decode cX4_renew 25 = .ok (.ireturn, 1) := by decide +kernel
theorem dX4_dye_0 : decode cX4_dye 0 = .ok (.aload_n 0, 1) := by decide +kernel
theorem dX4_dye_1 : decode cX4_dye 1 = .ok (.iload_n 1, 1) := by decide +kernel
theorem dX4_dye_2 : decode cX4_dye 2 = .ok (.invokevirtual 53, 3) := by decide +kernel
theorem dX4_dye_5 : decode cX4_dye 5 = .ok (.astore_n 3, 1) := by decide +kernel
theorem dX4_dye_6 : decode cX4_dye 6 = .ok (.iload_n 2, 1) := by decide +kernel
theorem dX4_dye_7 : decode cX4_dye 7 = .ok (.invokestatic 93, 3) := by decide +kernel
theorem dX4_dye_10 : decode cX4_dye 10 = .ok (.aload_n 0, 1) := by decide +kernel
theorem dX4_dye_11 : decode cX4_dye 11 = .ok (.getfield 19, 3) := by decide +kernel
theorem dX4_dye_14 : decode cX4_dye 14 = .ok (.aload_n 0, 1) := by decide +kernel
theorem dX4_dye_15 : decode cX4_dye 15 = .ok (.getfield 10, 3) := by decide +kernel
theorem dX4_dye_18 : decode cX4_dye 18 = .ok (.invokevirtual 61, 3) := by decide +kernel
theorem dX4_dye_21 : decode cX4_dye 21 = .ok (.aload_n 3, 1) := by decide +kernel
theorem dX4_dye_22 : decode cX4_dye 22 = .ok (.getfield 96, 3) := by decide +kernel
theorem dX4_dye_25 : decode cX4_dye 25 = .ok (.istore 4, 2) := by decide +kernel
theorem dX4_dye_27 : decode cX4_dye 27 = .ok (.aload_n 3, 1) := by decide +kernel
theorem dX4_dye_28 : decode cX4_dye 28 = .ok (.iload_n 2, 1) := by decide +kernel
theorem dX4_dye_29 : decode cX4_dye 29 = .ok (.putfield 96, 3) := by decide +kernel
theorem dX4_dye_32 : decode cX4_dye 32 = .ok (.iload 4, 2) := by decide +kernel
theorem dX4_dye_34 : decode cX4_dye 34 = .ok (.ireturn, 1) := by decide +kernel
theorem dX4_set_0 : decode cX4_set 0 = .ok (.iload_n 1, 1) := by decide +kernel
theorem dX4_set_1 : decode cX4_set 1 = .ok (.bipush 20, 2) := by decide +kernel
theorem dX4_set_3 : decode cX4_set 3 = .ok (.if_icmp .lt 9, 3) := by decide +kernel
theorem dX4_set_6 : decode cX4_set 6 = .ok (.iload_n 1, 1) := by decide +kernel
theorem dX4_set_7 : decode cX4_set 7 = .ok (.bipush 99, 2) := by decide +kernel
theorem dX4_set_9 : decode cX4_set 9 = .ok (.if_icmp .le 13, 3) := by decide +kernel
theorem dX4_set_12 : decode cX4_set 12 = .ok (.new 69, 3) := by decide +kernel
theorem dX4_set_15 : decode cX4_set 15 = .ok (.dup, 1) := by decide +kernel
theorem dX4_set_16 : decode cX4_set 16 = .ok (.ldc 99, 2) := by decide +kernel
theorem dX4_set_18 : decode cX4_set 18 = .ok (.invokespecial 73, 3) := by decide +kernel
theorem dX4_set_21 : decode cX4_set 21 = .ok (.athrow, 1) := by decide +kernel
theorem dX4_set_22 : decode cX4_set 22 = .ok (.aload_n 0, 1) := by decide +kernel
theorem dX4_set_23 : decode cX4_set 23 = .ok (.getfield 19, 3) := by decide +kernel
theorem dX4_set_26 : decode cX4_set 26 = .ok (.aload_n 0, 1) := by decide +kernel
theorem dX4_set_27 : decode cX4_set 27 = .ok (.getfield 10, 3) := by decide +kernel
theorem dX4_set_30 : decode cX4_set 30 = .ok (.invokevirtual 61, 3) := by decide +kernel
theorem dX4_set_33 : decode cX4_set 33 = .ok (.aload_n 0, 1) := by decide +kernel
theorem dX4_set_34 : decode cX4_set 34 = .ok (.getfield 10, 3) := by decide +kernel
theorem dX4_set_37 : decode cX4_set 37 = .ok (.getfield 101, 3) := by decide +kernel
theorem dX4_set_40 : decode cX4_set 40 = .ok (.istore_n 2, 1) := by decide +kernel
theorem dX4_set_41 : decode cX4_set 41 = .ok (.aload_n 0, 1) := by decide +kernel
theorem dX4_set_42 : decode cX4_set 42 = .ok (.getfield 10, 3) := by decide +kernel
theorem dX4_set_45 : decode cX4_set 45 = .ok (.iload_n 1, 1) := by decide +kernel
theorem dX4_set_46 : decode cX4_set 46 = .ok (.putfield 101, 3) := by decide +kernel
theorem dX4_set_49 : decode cX4_set 49 = .ok (.iload_n 2, 1) := by decide +kernel
theorem dX4_set_50 : decode cX4_set 50 = .ok (.ireturn, 1) := by decide +kernel
theorem dX4_keep_0 : decode cX4_keep 0 = .ok (.iload_n 1, 1) := by decide +kernel
theorem dX4_keep_1 : decode cX4_keep 1 = .ok (.invokestatic 131, 3) := by decide +kernel
theorem dX4_keep_4 : decode cX4_keep 4 = .ok (.aload_n 0, 1) := by decide +kernel
theorem dX4_keep_5 : decode cX4_keep 5 = .ok (.getfield 23, 3) := by decide +kernel
theorem dX4_keep_8 : decode cX4_keep 8 = .ok (.iload_n 1, 1) := by decide +kernel
theorem dX4_keep_9 : decode cX4_keep 9 = .ok (.aaload, 1) := by decide +kernel
theorem dX4_keep_10 : decode cX4_keep 10 = .ok (.astore_n 2, 1) := by decide +kernel
theorem dX4_keep_11 : decode cX4_keep 11 = .ok (.aload_n 2, 1) := by decide +kernel
theorem dX4_keep_12 : decode cX4_keep 12 = .ok (.ifnonnull 18, 3) := by decide +kernel
theorem dX4_keep_15 : decode cX4_keep 15 = .ok (.new 7, 3) := by decide +kernel
theorem dX4_keep_18 : decode cX4_keep 18 = .ok (.dup, 1) := by decide +kernel
theorem dX4_keep_19 : decode cX4_keep 19 = .ok (.invokespecial 9, 3) := by decide +kernel
theorem dX4_keep_22 : decode cX4_keep 22 = .ok (.astore_n 2, 1) := by decide +kernel
theorem dX4_keep_23 : decode cX4_keep 23 = .ok (.aload_n 0, 1) := by decide +kernel
theorem dX4_keep_24 : decode cX4_keep 24 = .ok (.getfield 23, 3) := by decide +kernel
theorem dX4_keep_27 : decode cX4_keep 27 = .ok (.iload_n 1, 1) := by decide +kernel
theorem dX4_keep_28 : decode cX4_keep 28 = .ok (.aload_n 2, 1) := by decide +kernel
theorem dX4_keep_29 : decode cX4_keep 29 = .ok (.aastore, 1) := by decide +kernel
theorem dX4_keep_30 : decode cX4_keep 30 = .ok (.aload_n 2, 1) := by decide +kernel
theorem dX4_keep_31 : decode cX4_keep 31 = .ok (.aload_n 0, 1) := by decide +kernel
theorem dX4_keep_32 : decode cX4_keep 32 = .ok (.getfield 10, 3) := by decide +kernel
theorem dX4_keep_35 : decode cX4_keep 35 = .ok (.invokevirtual 134, 3) := by decide +kernel
theorem dX4_keep_38 : decode cX4_keep 38 = .ok (.aload_n 0, 1) := by decide +kernel
theorem dX4_keep_39 : decode cX4_keep 39 = .ok (.getfield 10, 3) := by decide +kernel
theorem dX4_keep_42 : decode cX4_keep 42 = .ok (.invokevirtual 137, 3) := by decide +kernel
theorem dX4_keep_45 : decode cX4_keep 45 = .ok (.ireturn, 1) := by decide +kernel
theorem dX4_goBack_0 : decode cX4_goBack 0 = .ok (.iload_n 1, 1) := by decide +kernel
theorem dX4_goBack_1 : decode cX4_goBack 1 = .ok (.invokestatic 131, 3) := by decide +kernel
theorem dX4_goBack_4 : decode cX4_goBack 4 = .ok (.aload_n 0, 1) := by decide +kernel
theorem dX4_goBack_5 : decode cX4_goBack 5 = .ok (.getfield 23, 3) := by decide +kernel
theorem dX4_goBack_8 : decode cX4_goBack 8 = .ok (.iload_n 1, 1) := by decide +kernel
theorem dX4_goBack_9 : decode cX4_goBack 9 = .ok (.aaload, 1) := by decide +kernel
theorem dX4_goBack_10 : decode cX4_goBack 10 = .ok (.astore_n 2, 1) := by decide +kernel
theorem dX4_goBack_11 : decode cX4_goBack 11 = .ok (.aload_n 2, 1) := by decide +kernel
theorem dX4_goBack_12 : decode cX4_goBack 12 = .ok (.ifnonnull 13, 3) := by decide +kernel
theorem dX4_goBack_15 : decode cX4_goBack 15 = .ok (.new 106, 3) := by decide +kernel
theorem dX4_goBack_18 : decode cX4_goBack 18 = .ok (.dup, 1) := by decide +kernel
theorem dX4_goBack_19 : decode cX4_goBack 19 = .ok (.ldc 140, 2) := by decide +kernel
theorem dX4_goBack_21 : decode cX4_goBack 21 = .ok (.invokespecial 110, 3) := by decide +kernel
theorem dX4_goBack_24 : decode cX4_goBack 24 = .ok (.athrow, 1) := by decide +kernel
theorem dX4_goBack_25 : decode cX4_goBack 25 = .ok (.aload_n 0, 1) := by decide +kernel
theorem dX4_goBack_26 : decode cX4_goBack 26 = .ok (.getfield 19, 3) := by decide +kernel
theorem dX4_goBack_29 : decode cX4_goBack 29 = .ok (.aload_n 0, 1) := by decide +kernel
theorem dX4_goBack_30 : decode cX4_goBack 30 = .ok (.getfield 10, 3) := by decide +kernel
theorem dX4_goBack_33 : decode cX4_goBack 33 = .ok (.invokevirtual 61, 3) := by decide +kernel
theorem dX4_goBack_36 : decode cX4_goBack 36 = .ok (.aload_n 0, 1) := by decide +kernel
theorem dX4_goBack_37 : decode cX4_goBack 37 = .ok (.getfield 10, 3) := by decide +kernel
theorem dX4_goBack_40 : decode cX4_goBack 40 = .ok (.aload_n 2, 1) := by decide +kernel
theorem dX4_goBack_41 : decode cX4_goBack 41 = .ok (.invokevirtual 134, 3) := by decide +kernel
theorem dX4_goBack_44 : decode cX4_goBack 44 = .ok (.aload_n 0, 1) := by decide +kernel
theorem dX4_goBack_45 : decode cX4_goBack 45 = .ok (.getfield 10, 3) := by decide +kernel
theorem dX4_goBack_48 : decode cX4_goBack 48 = .ok (.invokevirtual 137, 3) := by decide +kernel
theorem dX4_goBack_51 : decode cX4_goBack 51 = .ok (.ireturn, 1) := by decide +kernel
theorem dX4_undo_0 : decode cX4_undo 0 = .ok (.aload_n 0, 1) := by decide +kernel
theorem dX4_undo_1 : decode cX4_undo 1 = .ok (.getfield 19, 3) := by decide +kernel
theorem dX4_undo_4 : decode cX4_undo 4 = .ok (.getfield 142, 3) := by decide +kernel
theorem dX4_undo_7 : decode cX4_undo 7 = .ok (.ifCond .ne 13, 3) := by decide +kernel
theorem dX4_undo_10 : decode cX4_undo 10 = .ok (.new 106, 3) := by decide +kernel
theorem dX4_undo_13 : decode cX4_undo 13 = .ok (.dup, 1) := by decide +kernel
theorem dX4_undo_14 : decode cX4_undo 14 = .ok (.ldc 145, 2) := by decide +kernel
theorem dX4_undo_16 : decode cX4_undo 16 = .ok (.invokespecial 110, 3) := by decide +kernel
theorem dX4_undo_19 : decode cX4_undo 19 = .ok (.athrow, 1) := by decide +kernel
theorem dX4_undo_20 : decode cX4_undo 20 = .ok (.aload_n 0, 1) := by decide +kernel
theorem dX4_undo_21 : decode cX4_undo 21 = .ok (.getfield 19, 3) := by decide +kernel
theorem dX4_undo_24 : decode cX4_undo 24 = .ok (.aload_n 0, 1) := by decide +kernel
theorem dX4_undo_25 : decode cX4_undo 25 = .ok (.getfield 10, 3) := by decide +kernel
theorem dX4_undo_28 : decode cX4_undo 28 = .ok (.invokevirtual 147, 3) := by decide +kernel
theorem dX4_undo_31 : decode cX4_undo 31 = .ok (.aload_n 0, 1) := by decide +kernel
theorem dX4_undo_32 : decode cX4_undo 32 = .ok (.getfield 19, 3) := by decide +kernel
theorem dX4_undo_35 : decode cX4_undo 35 = .ok (.getfield 142, 3) := by decide +kernel
theorem dX4_undo_38 : decode cX4_undo 38 = .ok (.ireturn, 1) := by decide +kernel
theorem dX4_cordOf_0 : decode cX4_cordOf 0 = .ok (.aload_n 0, 1) := by decide +kernel
theorem dX4_cordOf_1 : decode cX4_cordOf 1 = .ok (.iload_n 1, 1) := by decide +kernel
theorem dX4_cordOf_2 : decode cX4_cordOf 2 = .ok (.invokevirtual 53, 3) := by decide +kernel
theorem dX4_cordOf_5 : decode cX4_cordOf 5 = .ok (.astore_n 3, 1) := by decide +kernel
theorem dX4_cordOf_6 : decode cX4_cordOf 6 = .ok (.iload_n 2, 1) := by decide +kernel
theorem dX4_cordOf_7 : decode cX4_cordOf 7 = .ok (.tableswitch 85 0 7 #[45, 50, 55, 60, 65, 70, 75, 80], 45) := by decide +kernel
theorem dX4_cordOf_52 : decode cX4_cordOf 52 = .ok (.aload_n 3, 1) := by decide +kernel
theorem dX4_cordOf_53 : decode cX4_cordOf 53 = .ok (.invokevirtual 150, 3) := by decide +kernel
theorem dX4_cordOf_56 : decode cX4_cordOf 56 = .ok (.ireturn, 1) := by decide +kernel
theorem dX4_cordOf_57 : decode cX4_cordOf 57 = .ok (.aload_n 3, 1) := by decide +kernel
theorem dX4_cordOf_58 : decode cX4_cordOf 58 = .ok (.invokevirtual 152, 3) := by decide +kernel
theorem dX4_cordOf_61 : decode cX4_cordOf 61 = .ok (.ireturn, 1) := by decide +kernel
theorem dX4_cordOf_62 : decode cX4_cordOf 62 = .ok (.aload_n 3, 1) := by decide +kernel
theorem dX4_cordOf_63 : decode cX4_cordOf 63 = .ok (.getfield 155, 3) := by decide +kernel
theorem dX4_cordOf_66 : decode cX4_cordOf 66 = .ok (.ireturn, 1) := by decide +kernel
theorem dX4_cordOf_67 : decode cX4_cordOf 67 = .ok (.aload_n 3, 1) := by decide +kernel
theorem dX4_cordOf_68 : decode cX4_cordOf 68 = .ok (.invokevirtual 158, 3) := by decide +kernel
theorem dX4_cordOf_71 : decode cX4_cordOf 71 = .ok (.ireturn, 1) := by decide +kernel
theorem dX4_cordOf_72 : decode cX4_cordOf 72 = .ok (.aload_n 3, 1) := by decide +kernel
theorem dX4_cordOf_73 : decode cX4_cordOf 73 = .ok (.invokevirtual 161, 3) := by decide +kernel
theorem dX4_cordOf_76 : decode cX4_cordOf 76 = .ok (.ireturn, 1) := by decide +kernel
theorem dX4_cordOf_77 : decode cX4_cordOf 77 = .ok (.aload_n 3, 1) := by decide +kernel
theorem dX4_cordOf_78 : decode cX4_cordOf 78 = .ok (.invokevirtual 162, 3) := by decide +kernel
theorem dX4_cordOf_81 : decode cX4_cordOf 81 = .ok (.ireturn, 1) := by decide +kernel
theorem dX4_cordOf_82 : decode cX4_cordOf 82 = .ok (.aload_n 3, 1) := by decide +kernel
theorem dX4_cordOf_83 : decode cX4_cordOf 83 = .ok (.getfield 96, 3) := by decide +kernel
theorem dX4_cordOf_86 : decode cX4_cordOf 86 = .ok (.ireturn, 1) := by decide +kernel
theorem dX4_cordOf_87 : decode cX4_cordOf 87 = .ok (.aload_n 3, 1) := by decide +kernel
theorem dX4_cordOf_88 : decode cX4_cordOf 88 = .ok (.getfield 165, 3) := by decide +kernel
theorem dX4_cordOf_91 : decode cX4_cordOf 91 = .ok (.ireturn, 1) := by decide +kernel
theorem dX4_cordOf_92 : decode cX4_cordOf 92 = .ok (.new 69, 3) := by decide +kernel
theorem dX4_cordOf_95 : decode cX4_cordOf 95 = .ok (.dup, 1) := by decide +kernel
theorem dX4_cordOf_96 : decode cX4_cordOf 96 = .ok (.ldc 168, 2) := by decide +kernel
theorem dX4_cordOf_98 : decode cX4_cordOf 98 = .ok (.invokespecial 73, 3) := by decide +kernel
theorem dX4_cordOf_101 : decode cX4_cordOf 101 = .ok (.athrow, 1) := by decide +kernel
theorem dX4_placeOf_0 : decode cX4_placeOf 0 = .ok (.aload_n 0, 1) := by decide +kernel
theorem dX4_placeOf_1 : decode cX4_placeOf 1 = .ok (.iload_n 1, 1) := by decide +kernel
theorem dX4_placeOf_2 : decode cX4_placeOf 2 = .ok (.invokevirtual 53, 3) := by decide +kernel
theorem dX4_placeOf_5 : decode cX4_placeOf 5 = .ok (.astore 4, 2) := by decide +kernel
theorem dX4_placeOf_7 : decode cX4_placeOf 7 = .ok (.iload_n 2, 1) := by decide +kernel
theorem dX4_placeOf_8 : decode cX4_placeOf 8 = .ok (.invokestatic 80, 3) := by decide +kernel
theorem dX4_placeOf_11 : decode cX4_placeOf 11 = .ok (.iload_n 3, 1) := by decide +kernel
theorem dX4_placeOf_12 : decode cX4_placeOf 12 = .ok (.tableswitch 74 0 3 #[32, 40, 48, 55], 32) := by decide +kernel
theorem dX4_placeOf_44 : decode cX4_placeOf 44 = .ok (.aload 4, 2) := by decide +kernel
theorem dX4_placeOf_46 : decode cX4_placeOf 46 = .ok (.getfield 170, 3) := by decide +kernel
theorem dX4_placeOf_49 : decode cX4_placeOf 49 = .ok (.iload_n 2, 1) := by decide +kernel
theorem dX4_placeOf_50 : decode cX4_placeOf 50 = .ok (.iaload, 1) := by decide +kernel
theorem dX4_placeOf_51 : decode cX4_placeOf 51 = .ok (.ireturn, 1) := by decide +kernel
theorem dX4_placeOf_52 : decode cX4_placeOf 52 = .ok (.aload 4, 2) := by decide +kernel
theorem dX4_placeOf_54 : decode cX4_placeOf 54 = .ok (.getfield 173, 3) := by decide +kernel
theorem dX4_placeOf_57 : decode cX4_placeOf 57 = .ok (.iload_n 2, 1) := by decide +kernel
theorem dX4_placeOf_58 : decode cX4_placeOf 58 = .ok (.iaload, 1) := by decide +kernel
theorem dX4_placeOf_59 : decode cX4_placeOf 59 = .ok (.ireturn, 1) := by decide +kernel
theorem dX4_placeOf_60 : decode cX4_placeOf 60 = .ok (.aload 4, 2) := by decide +kernel
theorem dX4_placeOf_62 : decode cX4_placeOf 62 = .ok (.iload_n 2, 1) := by decide +kernel
theorem dX4_placeOf_63 : decode cX4_placeOf 63 = .ok (.invokevirtual 176, 3) := by decide +kernel
theorem dX4_placeOf_66 : decode cX4_placeOf 66 = .ok (.ireturn, 1) := by decide +kernel
theorem dX4_placeOf_67 : decode cX4_placeOf 67 = .ok (.iconst 0, 1) := by decide +kernel
theorem dX4_placeOf_68 : decode cX4_placeOf 68 = .ok (.aload_n 0, 1) := by decide +kernel
theorem dX4_placeOf_69 : decode cX4_placeOf 69 = .ok (.getfield 10, 3) := by decide +kernel
theorem dX4_placeOf_72 : decode cX4_placeOf 72 = .ok (.getfield 101, 3) := by decide +kernel
theorem dX4_placeOf_75 : decode cX4_placeOf 75 = .ok (.aload 4, 2) := by decide +kernel
theorem dX4_placeOf_77 : decode cX4_placeOf 77 = .ok (.iload_n 2, 1) := by decide +kernel
theorem dX4_placeOf_78 : decode cX4_placeOf 78 = .ok (.invokevirtual 180, 3) := by decide +kernel
theorem dX4_placeOf_81 : decode cX4_placeOf 81 = .ok (.isub, 1) := by decide +kernel
theorem dX4_placeOf_82 : decode cX4_placeOf 82 = .ok (.invokestatic 183, 3) := by decide +kernel
theorem dX4_placeOf_85 : decode cX4_placeOf 85 = .ok (.ireturn, 1) := by decide +kernel
theorem dX4_placeOf_86 : decode cX4_placeOf 86 = .ok (.new 69, 3) := by decide +kernel
theorem dX4_placeOf_89 : decode cX4_placeOf 89 = .ok (.dup, 1) := by decide +kernel
theorem dX4_placeOf_90 : decode cX4_placeOf 90 = .ok (.ldc 189, 2) := by decide +kernel
theorem dX4_placeOf_92 : decode cX4_placeOf 92 = .ok (.invokespecial 73, 3) := by decide +kernel
theorem dX4_placeOf_95 : decode cX4_placeOf 95 = .ok (.athrow, 1) := by decide +kernel
theorem dX4_part_0 : decode cX4_part 0 = .ok (.aload_n 0, 1) := by decide +kernel
theorem dX4_part_1 : decode cX4_part 1 = .ok (.iload_n 1, 1) := by decide +kernel
theorem dX4_part_2 : decode cX4_part 2 = .ok (.invokevirtual 53, 3) := by decide +kernel
theorem dX4_part_5 : decode cX4_part 5 = .ok (.astore_n 3, 1) := by decide +kernel
theorem dX4_part_6 : decode cX4_part 6 = .ok (.iload_n 2, 1) := by decide +kernel
theorem dX4_part_7 : decode cX4_part 7 = .ok (.ifCond .ge 13, 3) := by decide +kernel
theorem dX4_part_10 : decode cX4_part 10 = .ok (.new 69, 3) := by decide +kernel
theorem dX4_part_13 : decode cX4_part 13 = .ok (.dup, 1) := by decide +kernel
theorem dX4_part_14 : decode cX4_part 14 = .ok (.ldc 191, 2) := by decide +kernel
theorem dX4_part_16 : decode cX4_part 16 = .ok (.invokespecial 73, 3) := by decide +kernel
theorem dX4_part_19 : decode cX4_part 19 = .ok (.athrow, 1) := by decide +kernel
theorem dX4_part_20 : decode cX4_part 20 = .ok (.iload_n 2, 1) := by decide +kernel
theorem dX4_part_21 : decode cX4_part 21 = .ok (.aload_n 3, 1) := by decide +kernel
theorem dX4_part_22 : decode cX4_part 22 = .ok (.getfield 155, 3) := by decide +kernel
theorem dX4_part_25 : decode cX4_part 25 = .ok (.if_icmp .ge 12, 3) := by decide +kernel
theorem dX4_part_28 : decode cX4_part 28 = .ok (.aload_n 3, 1) := by decide +kernel
theorem dX4_part_29 : decode cX4_part 29 = .ok (.getfield 193, 3) := by decide +kernel
theorem dX4_part_32 : decode cX4_part 32 = .ok (.iload_n 2, 1) := by decide +kernel
theorem dX4_part_33 : decode cX4_part 33 = .ok (.iaload, 1) := by decide +kernel
theorem dX4_part_34 : decode cX4_part 34 = .ok (.goto 4, 3) := by decide +kernel
theorem dX4_part_37 : decode cX4_part 37 = .ok (.iconst (-1), 1) := by decide +kernel
theorem dX4_part_38 : decode cX4_part 38 = .ok (.ireturn, 1) := by decide +kernel
theorem dX4_count_0 : decode cX4_count 0 = .ok (.iload_n 1, 1) := by decide +kernel
theorem dX4_count_1 : decode cX4_count 1 = .ok (.tableswitch 135 0 9 #[55, 63, 71, 79, 87, 95, 103, 111, 119, 127], 55) := by decide +kernel
theorem dX4_count_56 : decode cX4_count 56 = .ok (.aload_n 0, 1) := by decide +kernel
theorem dX4_count_57 : decode cX4_count 57 = .ok (.getfield 10, 3) := by decide +kernel
theorem dX4_count_60 : decode cX4_count 60 = .ok (.invokevirtual 196, 3) := by decide +kernel
theorem dX4_count_63 : decode cX4_count 63 = .ok (.ireturn, 1) := by decide +kernel
theorem dX4_count_64 : decode cX4_count 64 = .ok (.aload_n 0, 1) := by decide +kernel
theorem dX4_count_65 : decode cX4_count 65 = .ok (.getfield 10, 3) := by decide +kernel
theorem dX4_count_68 : decode cX4_count 68 = .ok (.invokevirtual 137, 3) := by decide +kernel
theorem dX4_count_71 : decode cX4_count 71 = .ok (.ireturn, 1) := by decide +kernel
theorem dX4_count_72 : decode cX4_count 72 = .ok (.aload_n 0, 1) := by decide +kernel
theorem dX4_count_73 : decode cX4_count 73 = .ok (.getfield 10, 3) := by decide +kernel
theorem dX4_count_76 : decode cX4_count 76 = .ok (.getfield 197, 3) := by decide +kernel
theorem dX4_count_79 : decode cX4_count 79 = .ok (.ireturn, 1) := by decide +kernel
theorem dX4_count_80 : decode cX4_count 80 = .ok (.aload_n 0, 1) := by decide +kernel
theorem dX4_count_81 : decode cX4_count 81 = .ok (.getfield 10, 3) := by decide +kernel
theorem dX4_count_84 : decode cX4_count 84 = .ok (.getfield 200, 3) := by decide +kernel
theorem dX4_count_87 : decode cX4_count 87 = .ok (.ireturn, 1) := by decide +kernel
theorem dX4_count_88 : decode cX4_count 88 = .ok (.aload_n 0, 1) := by decide +kernel
theorem dX4_count_89 : decode cX4_count 89 = .ok (.getfield 10, 3) := by decide +kernel
theorem dX4_count_92 : decode cX4_count 92 = .ok (.getfield 203, 3) := by decide +kernel
theorem dX4_count_95 : decode cX4_count 95 = .ok (.ireturn, 1) := by decide +kernel
theorem dX4_count_96 : decode cX4_count 96 = .ok (.aload_n 0, 1) := by decide +kernel
theorem dX4_count_97 : decode cX4_count 97 = .ok (.getfield 10, 3) := by decide +kernel
theorem dX4_count_100 : decode cX4_count 100 = .ok (.getfield 204, 3) := by decide +kernel
theorem dX4_count_103 : decode cX4_count 103 = .ok (.ireturn, 1) := by decide +kernel
theorem dX4_count_104 : decode cX4_count 104 = .ok (.aload_n 0, 1) := by decide +kernel
theorem dX4_count_105 : decode cX4_count 105 = .ok (.getfield 10, 3) := by decide +kernel
theorem dX4_count_108 : decode cX4_count 108 = .ok (.getfield 207, 3) := by decide +kernel
theorem dX4_count_111 : decode cX4_count 111 = .ok (.ireturn, 1) := by decide +kernel
theorem dX4_count_112 : decode cX4_count 112 = .ok (.aload_n 0, 1) := by decide +kernel
theorem dX4_count_113 : decode cX4_count 113 = .ok (.getfield 10, 3) := by decide +kernel
theorem dX4_count_116 : decode cX4_count 116 = .ok (.invokevirtual 210, 3) := by decide +kernel
theorem dX4_count_119 : decode cX4_count 119 = .ok (.ireturn, 1) := by decide +kernel
theorem dX4_count_120 : decode cX4_count 120 = .ok (.aload_n 0, 1) := by decide +kernel
theorem dX4_count_121 : decode cX4_count 121 = .ok (.getfield 10, 3) := by decide +kernel
theorem dX4_count_124 : decode cX4_count 124 = .ok (.getfield 101, 3) := by decide +kernel
theorem dX4_count_127 : decode cX4_count 127 = .ok (.ireturn, 1) := by decide +kernel
theorem dX4_count_128 : decode cX4_count 128 = .ok (.aload_n 0, 1) := by decide +kernel
theorem dX4_count_129 : decode cX4_count 129 = .ok (.getfield 19, 3) := by decide +kernel
theorem dX4_count_132 : decode cX4_count 132 = .ok (.getfield 142, 3) := by decide +kernel
theorem dX4_count_135 : decode cX4_count 135 = .ok (.ireturn, 1) := by decide +kernel
theorem dX4_count_136 : decode cX4_count 136 = .ok (.new 69, 3) := by decide +kernel
theorem dX4_count_139 : decode cX4_count 139 = .ok (.dup, 1) := by decide +kernel
theorem dX4_count_140 : decode cX4_count 140 = .ok (.ldc 213, 2) := by decide +kernel
theorem dX4_count_142 : decode cX4_count 142 = .ok (.invokespecial 73, 3) := by decide +kernel
theorem dX4_count_145 : decode cX4_count 145 = .ok (.athrow, 1) := by decide +kernel
theorem dX4_byHue_0 : decode cX4_byHue 0 = .ok (.iload_n 1, 1) := by decide +kernel
theorem dX4_byHue_1 : decode cX4_byHue 1 = .ok (.invokestatic 93, 3) := by decide +kernel
theorem dX4_byHue_4 : decode cX4_byHue 4 = .ok (.aload_n 0, 1) := by decide +kernel
theorem dX4_byHue_5 : decode cX4_byHue 5 = .ok (.getfield 10, 3) := by decide +kernel
theorem dX4_byHue_8 : decode cX4_byHue 8 = .ok (.iload_n 1, 1) := by decide +kernel
theorem dX4_byHue_9 : decode cX4_byHue 9 = .ok (.invokevirtual 215, 3) := by decide +kernel
theorem dX4_byHue_12 : decode cX4_byHue 12 = .ok (.ireturn, 1) := by decide +kernel
theorem dX4_whyNot_0 : decode cX4_whyNot 0 = .ok (.aload_n 0, 1) := by decide +kernel
theorem dX4_whyNot_1 : decode cX4_whyNot 1 = .ok (.iload_n 1, 1) := by decide +kernel
theorem dX4_whyNot_2 : decode cX4_whyNot 2 = .ok (.invokevirtual 53, 3) := by decide +kernel
theorem dX4_whyNot_5 : decode cX4_whyNot 5 = .ok (.astore_n 3, 1) := by decide +kernel
theorem dX4_whyNot_6 : decode cX4_whyNot 6 = .ok (.iload_n 2, 1) := by decide +kernel
theorem dX4_whyNot_7 : decode cX4_whyNot 7 = .ok (.invokestatic 57, 3) := by decide +kernel
theorem dX4_whyNot_10 : decode cX4_whyNot 10 = .ok (.aload_n 3, 1) := by decide +kernel
theorem dX4_whyNot_11 : decode cX4_whyNot 11 = .ok (.iload_n 2, 1) := by decide +kernel
theorem dX4_whyNot_12 : decode cX4_whyNot 12 = .ok (.aload_n 0, 1) := by decide +kernel
theorem dX4_whyNot_13 : decode cX4_whyNot 13 = .ok (.getfield 10, 3) := by decide +kernel
theorem dX4_whyNot_16 : decode cX4_whyNot 16 = .ok (.getfield 101, 3) := by decide +kernel
theorem dX4_whyNot_19 : decode cX4_whyNot 19 = .ok (.invokevirtual 218, 3) := by decide +kernel
theorem dX4_whyNot_22 : decode cX4_whyNot 22 = .ok (.ireturn, 1) := by decide +kernel
theorem dX4_howOften_0 : decode cX4_howOften 0 = .ok (.aload_n 0, 1) := by decide +kernel
theorem dX4_howOften_1 : decode cX4_howOften 1 = .ok (.iload_n 1, 1) := by decide +kernel
theorem dX4_howOften_2 : decode cX4_howOften 2 = .ok (.invokevirtual 53, 3) := by decide +kernel
theorem dX4_howOften_5 : decode cX4_howOften 5 = .ok (.astore_n 3, 1) := by decide +kernel
theorem dX4_howOften_6 : decode cX4_howOften 6 = .ok (.iload_n 2, 1) := by decide +kernel
theorem dX4_howOften_7 : decode cX4_howOften 7 = .ok (.invokestatic 57, 3) := by decide +kernel
theorem dX4_howOften_10 : decode cX4_howOften 10 = .ok (.aload_n 0, 1) := by decide +kernel
theorem dX4_howOften_11 : decode cX4_howOften 11 = .ok (.getfield 45, 3) := by decide +kernel
theorem dX4_howOften_14 : decode cX4_howOften 14 = .ok (.aload_n 3, 1) := by decide +kernel
theorem dX4_howOften_15 : decode cX4_howOften 15 = .ok (.invokevirtual 221, 3) := by decide +kernel
theorem dX4_howOften_18 : decode cX4_howOften 18 = .ok (.iconst 0, 1) := by decide +kernel
theorem dX4_howOften_19 : decode cX4_howOften 19 = .ok (.istore 4, 2) := by decide +kernel
theorem dX4_howOften_21 : decode cX4_howOften 21 = .ok (.iload 4, 2) := by decide +kernel
theorem dX4_howOften_23 : decode cX4_howOften 23 = .ok (.bipush 16, 2) := by decide +kernel
theorem dX4_howOften_25 : decode cX4_howOften 25 = .ok (.if_icmp .ge 35, 3) := by decide +kernel
theorem dX4_howOften_28 : decode cX4_howOften 28 = .ok (.aload_n 0, 1) := by decide +kernel
theorem dX4_howOften_29 : decode cX4_howOften 29 = .ok (.getfield 45, 3) := by decide +kernel
theorem dX4_howOften_32 : decode cX4_howOften 32 = .ok (.iload_n 2, 1) := by decide +kernel
theorem dX4_howOften_33 : decode cX4_howOften 33 = .ok (.aload_n 0, 1) := by decide +kernel
theorem dX4_howOften_34 : decode cX4_howOften 34 = .ok (.getfield 10, 3) := by decide +kernel
theorem dX4_howOften_37 : decode cX4_howOften 37 = .ok (.getfield 101, 3) := by decide +kernel
theorem dX4_howOften_40 : decode cX4_howOften 40 = .ok (.invokevirtual 218, 3) := by decide +kernel
theorem dX4_howOften_43 : decode cX4_howOften 43 = .ok (.ifCond .ne 17, 3) := by decide +kernel
theorem dX4_howOften_46 : decode cX4_howOften 46 = .ok (.aload_n 0, 1) := by decide +kernel
theorem dX4_howOften_47 : decode cX4_howOften 47 = .ok (.getfield 45, 3) := by decide +kernel
theorem dX4_howOften_50 : decode cX4_howOften 50 = .ok (.iload_n 2, 1) := by decide +kernel
theorem dX4_howOften_51 : decode cX4_howOften 51 = .ok (.invokevirtual 224, 3) := by decide +kernel
theorem dX4_howOften_54 : decode cX4_howOften 54 = .ok (.iinc 4 1, 3) := by decide +kernel
theorem dX4_howOften_57 : decode cX4_howOften 57 = .ok (.goto (-36), 3) := by decide +kernel
theorem dX4_howOften_60 : decode cX4_howOften 60 = .ok (.iload 4, 2) := by decide +kernel
theorem dX4_howOften_62 : decode cX4_howOften 62 = .ok (.ireturn, 1) := by decide +kernel
theorem dX4_cordsFor_0 : decode cX4_cordsFor 0 = .ok (.iload_n 1, 1) := by decide +kernel
theorem dX4_cordsFor_1 : decode cX4_cordsFor 1 = .ok (.iconst 1, 1) := by decide +kernel
theorem dX4_cordsFor_2 : decode cX4_cordsFor 2 = .ok (.if_icmp .lt 9, 3) := by decide +kernel
theorem dX4_cordsFor_5 : decode cX4_cordsFor 5 = .ok (.iload_n 1, 1) := by decide +kernel
theorem dX4_cordsFor_6 : decode cX4_cordsFor 6 = .ok (.ldc 227, 2) := by decide +kernel
theorem dX4_cordsFor_8 : decode cX4_cordsFor 8 = .ok (.if_icmp .le 13, 3) := by decide +kernel
theorem dX4_cordsFor_11 : decode cX4_cordsFor 11 = .ok (.new 69, 3) := by decide +kernel
theorem dX4_cordsFor_14 : decode cX4_cordsFor 14 = .ok (.dup, 1) := by decide +kernel
theorem dX4_cordsFor_15 : decode cX4_cordsFor 15 = .ok (.ldc 228, 2) := by decide +kernel
theorem dX4_cordsFor_17 : decode cX4_cordsFor 17 = .ok (.invokespecial 73, 3) := by decide +kernel
theorem dX4_cordsFor_20 : decode cX4_cordsFor 20 = .ok (.athrow, 1) := by decide +kernel
theorem dX4_cordsFor_21 : decode cX4_cordsFor 21 = .ok (.iload_n 2, 1) := by decide +kernel
theorem dX4_cordsFor_22 : decode cX4_cordsFor 22 = .ok (.ifCond .eq 18, 3) := by decide +kernel
theorem dX4_cordsFor_25 : decode cX4_cordsFor 25 = .ok (.iload_n 2, 1) := by decide +kernel
theorem dX4_cordsFor_26 : decode cX4_cordsFor 26 = .ok (.iconst 1, 1) := by decide +kernel
theorem dX4_cordsFor_27 : decode cX4_cordsFor 27 = .ok (.if_icmp .eq 13, 3) := by decide +kernel
theorem dX4_cordsFor_30 : decode cX4_cordsFor 30 = .ok (.new 69, 3) := by decide +kernel
theorem dX4_cordsFor_33 : decode cX4_cordsFor 33 = .ok (.dup, 1) := by decide +kernel
theorem dX4_cordsFor_34 : decode cX4_cordsFor 34 = .ok (.ldc 230, 2) := by decide +kernel
theorem dX4_cordsFor_36 : decode cX4_cordsFor 36 = .ok (.invokespecial 73, 3) := by decide +kernel
theorem dX4_cordsFor_39 : decode cX4_cordsFor 39 = .ok (.athrow, 1) := by decide +kernel
theorem dX4_cordsFor_40 : decode cX4_cordsFor 40 = .ok (.aload_n 0, 1) := by decide +kernel
theorem dX4_cordsFor_41 : decode cX4_cordsFor 41 = .ok (.getfield 10, 3) := by decide +kernel
theorem dX4_cordsFor_44 : decode cX4_cordsFor 44 = .ok (.aload_n 0, 1) := by decide +kernel
theorem dX4_cordsFor_45 : decode cX4_cordsFor 45 = .ok (.getfield 49, 3) := by decide +kernel
theorem dX4_cordsFor_48 : decode cX4_cordsFor 48 = .ok (.invokevirtual 232, 3) := by decide +kernel
theorem dX4_cordsFor_51 : decode cX4_cordsFor 51 = .ok (.iload_n 2, 1) := by decide +kernel
theorem dX4_cordsFor_52 : decode cX4_cordsFor 52 = .ok (.ifCond .ne 14, 3) := by decide +kernel
theorem dX4_cordsFor_55 : decode cX4_cordsFor 55 = .ok (.aload_n 0, 1) := by decide +kernel
theorem dX4_cordsFor_56 : decode cX4_cordsFor 56 = .ok (.getfield 49, 3) := by decide +kernel
theorem dX4_cordsFor_59 : decode cX4_cordsFor 59 = .ok (.iload_n 1, 1) := by decide +kernel
theorem dX4_cordsFor_60 : decode cX4_cordsFor 60 = .ok (.invokestatic 236, 3) := by decide +kernel
theorem dX4_cordsFor_63 : decode cX4_cordsFor 63 = .ok (.goto 14, 3) := by decide +kernel
theorem dX4_cordsFor_66 : decode cX4_cordsFor 66 = .ok (.aload_n 0, 1) := by decide +kernel
theorem dX4_cordsFor_67 : decode cX4_cordsFor 67 = .ok (.getfield 49, 3) := by decide +kernel
theorem dX4_cordsFor_70 : decode cX4_cordsFor 70 = .ok (.iconst 0, 1) := by decide +kernel
theorem dX4_cordsFor_71 : decode cX4_cordsFor 71 = .ok (.iload_n 1, 1) := by decide +kernel
theorem dX4_cordsFor_72 : decode cX4_cordsFor 72 = .ok (.iconst 0, 1) := by decide +kernel
theorem dX4_cordsFor_73 : decode cX4_cordsFor 73 = .ok (.iconst (-1), 1) := by decide +kernel
theorem dX4_cordsFor_74 : decode cX4_cordsFor 74 = .ok (.invokestatic 240, 3) := by decide +kernel
theorem dX4_cordsFor_77 : decode cX4_cordsFor 77 = .ok (.ireturn, 1) := by decide +kernel
theorem dX4_fullest_0 : decode cX4_fullest 0 = .ok (.aload_n 0, 1) := by decide +kernel
theorem dX4_fullest_1 : decode cX4_fullest 1 = .ok (.getfield 10, 3) := by decide +kernel
theorem dX4_fullest_4 : decode cX4_fullest 4 = .ok (.invokevirtual 244, 3) := by decide +kernel
theorem dX4_fullest_7 : decode cX4_fullest 7 = .ok (.ireturn, 1) := by decide +kernel
theorem dX4_closedShare_0 : decode cX4_closedShare 0 = .ok (.aload_n 0, 1) := by decide +kernel
theorem dX4_closedShare_1 : decode cX4_closedShare 1 = .ok (.getfield 10, 3) := by decide +kernel
theorem dX4_closedShare_4 : decode cX4_closedShare 4 = .ok (.invokevirtual 247, 3) := by decide +kernel
theorem dX4_closedShare_7 : decode cX4_closedShare 7 = .ok (.istore_n 1, 1) := by decide +kernel
theorem dX4_closedShare_8 : decode cX4_closedShare 8 = .ok (.iload_n 1, 1) := by decide +kernel
theorem dX4_closedShare_9 : decode cX4_closedShare 9 = .ok (.ifCond .ne 7, 3) := by decide +kernel
theorem dX4_closedShare_12 : decode cX4_closedShare 12 = .ok (.dconst 0, 1) := by decide +kernel
theorem dX4_closedShare_13 : decode cX4_closedShare 13 = .ok (.goto 17, 3) := by decide +kernel
theorem dX4_closedShare_16 : decode cX4_closedShare 16 = .ok (.bipush 10, 2) := by decide +kernel
theorem dX4_closedShare_18 : decode cX4_closedShare 18 = .ok (.aload_n 0, 1) := by decide +kernel
theorem dX4_closedShare_19 : decode cX4_closedShare 19 = .ok (.getfield 10, 3) := by decide +kernel
theorem dX4_closedShare_22 : decode cX4_closedShare 22 = .ok (.invokevirtual 249, 3) := by decide +kernel
theorem dX4_closedShare_25 : decode cX4_closedShare 25 = .ok (.imul, 1) := by decide +kernel
theorem dX4_closedShare_26 : decode cX4_closedShare 26 = .ok (.i2d, 1) := by decide +kernel
theorem dX4_closedShare_27 : decode cX4_closedShare 27 = .ok (.iload_n 1, 1) := by decide +kernel
theorem dX4_closedShare_28 : decode cX4_closedShare 28 = .ok (.i2d, 1) := by decide +kernel
theorem dX4_closedShare_29 : decode cX4_closedShare 29 = .ok (.ddiv, 1) := by decide +kernel
theorem dX4_closedShare_30 : decode cX4_closedShare 30 = .ok (.dreturn, 1) := by decide +kernel
theorem dX4_cordAt_0 : decode cX4_cordAt 0 = .ok (.iload_n 1, 1) := by decide +kernel
theorem dX4_cordAt_1 : decode cX4_cordAt 1 = .ok (.ifCond .lt 9, 3) := by decide +kernel
theorem dX4_cordAt_4 : decode cX4_cordAt 4 = .ok (.iload_n 1, 1) := by decide +kernel
theorem dX4_cordAt_5 : decode cX4_cordAt 5 = .ok (.bipush 7, 2) := by decide +kernel
theorem dX4_cordAt_7 : decode cX4_cordAt 7 = .ok (.if_icmp .lt 14, 3) := by decide +kernel
theorem dX4_cordAt_10 : decode cX4_cordAt 10 = .ok (.new 281, 3) := by decide +kernel
theorem dX4_cordAt_13 : decode cX4_cordAt 13 = .ok (.dup, 1) := by decide +kernel
theorem dX4_cordAt_14 : decode cX4_cordAt 14 = .ok (.ldc_w 283, 3) := by decide +kernel
theorem dX4_cordAt_17 : decode cX4_cordAt 17 = .ok (.invokespecial 285, 3) := by decide +kernel
theorem dX4_cordAt_20 : decode cX4_cordAt 20 = .ok (.athrow, 1) := by decide +kernel
theorem dX4_cordAt_21 : decode cX4_cordAt 21 = .ok (.aload_n 0, 1) := by decide +kernel
theorem dX4_cordAt_22 : decode cX4_cordAt 22 = .ok (.getfield 10, 3) := by decide +kernel
theorem dX4_cordAt_25 : decode cX4_cordAt 25 = .ok (.getfield 286, 3) := by decide +kernel
theorem dX4_cordAt_28 : decode cX4_cordAt 28 = .ok (.iload_n 1, 1) := by decide +kernel
theorem dX4_cordAt_29 : decode cX4_cordAt 29 = .ok (.aaload, 1) := by decide +kernel
theorem dX4_cordAt_30 : decode cX4_cordAt 30 = .ok (.areturn, 1) := by decide +kernel
theorem dX4_checkPlace_0 : decode cX4_checkPlace 0 = .ok (.iload_n 0, 1) := by decide +kernel
theorem dX4_checkPlace_1 : decode cX4_checkPlace 1 = .ok (.ifCond .lt 9, 3) := by decide +kernel
theorem dX4_checkPlace_4 : decode cX4_checkPlace 4 = .ok (.iload_n 0, 1) := by decide +kernel
theorem dX4_checkPlace_5 : decode cX4_checkPlace 5 = .ok (.bipush 6, 2) := by decide +kernel
theorem dX4_checkPlace_7 : decode cX4_checkPlace 7 = .ok (.if_icmp .lt 14, 3) := by decide +kernel
theorem dX4_checkPlace_10 : decode cX4_checkPlace 10 = .ok (.new 281, 3) := by decide +kernel
theorem dX4_checkPlace_13 : decode cX4_checkPlace 13 = .ok (.dup, 1) := by decide +kernel
theorem dX4_checkPlace_14 : decode cX4_checkPlace 14 = .ok (.ldc_w 290, 3) := by decide +kernel
theorem dX4_checkPlace_17 : decode cX4_checkPlace 17 = .ok (.invokespecial 285, 3) := by decide +kernel
theorem dX4_checkPlace_20 : decode cX4_checkPlace 20 = .ok (.athrow, 1) := by decide +kernel
theorem dX4_checkPlace_21 : decode cX4_checkPlace 21 = .ok (.return_, 1) := by decide +kernel
theorem dX4_checkNumber_0 : decode cX4_checkNumber 0 = .ok (.iload_n 0, 1) := by decide +kernel
theorem dX4_checkNumber_1 : decode cX4_checkNumber 1 = .ok (.iconst 1, 1) := by decide +kernel
theorem dX4_checkNumber_2 : decode cX4_checkNumber 2 = .ok (.if_icmp .lt 10, 3) := by decide +kernel
theorem dX4_checkNumber_5 : decode cX4_checkNumber 5 = .ok (.iload_n 0, 1) := by decide +kernel
theorem dX4_checkNumber_6 : decode cX4_checkNumber 6 = .ok (.ldc_w 292, 3) := by decide +kernel
theorem dX4_checkNumber_9 : decode cX4_checkNumber 9 = .ok (.if_icmp .le 14, 3) := by decide +kernel
theorem dX4_checkNumber_12 : decode cX4_checkNumber 12 = .ok (.new 69, 3) := by decide +kernel
theorem dX4_checkNumber_15 : decode cX4_checkNumber 15 = .ok (.dup, 1) := by decide +kernel
theorem dX4_checkNumber_16 : decode cX4_checkNumber 16 = .ok (.ldc_w 293, 3) := by decide +kernel
theorem dX4_checkNumber_19 : decode cX4_checkNumber 19 = .ok (.invokespecial 73, 3) := by decide +kernel
theorem dX4_checkNumber_22 : decode cX4_checkNumber 22 = .ok (.athrow, 1) := by decide +kernel
theorem dX4_checkNumber_23 : decode cX4_checkNumber 23 = .ok (.return_, 1) := by decide +kernel
theorem dX4_checkHue_0 : decode cX4_checkHue 0 = .ok (.iload_n 0, 1) := by decide +kernel
theorem dX4_checkHue_1 : decode cX4_checkHue 1 = .ok (.ifCond .lt 9, 3) := by decide +kernel
theorem dX4_checkHue_4 : decode cX4_checkHue 4 = .ok (.iload_n 0, 1) := by decide +kernel
theorem dX4_checkHue_5 : decode cX4_checkHue 5 = .ok (.bipush 6, 2) := by decide +kernel
theorem dX4_checkHue_7 : decode cX4_checkHue 7 = .ok (.if_icmp .lt 14, 3) := by decide +kernel
theorem dX4_checkHue_10 : decode cX4_checkHue 10 = .ok (.new 69, 3) := by decide +kernel
theorem dX4_checkHue_13 : decode cX4_checkHue 13 = .ok (.dup, 1) := by decide +kernel
theorem dX4_checkHue_14 : decode cX4_checkHue 14 = .ok (.ldc_w 295, 3) := by decide +kernel
theorem dX4_checkHue_17 : decode cX4_checkHue 17 = .ok (.invokespecial 73, 3) := by decide +kernel
theorem dX4_checkHue_20 : decode cX4_checkHue 20 = .ok (.athrow, 1) := by decide +kernel
theorem dX4_checkHue_21 : decode cX4_checkHue 21 = .ok (.return_, 1) := by decide +kernel
theorem dX4_checkSlot_0 : decode cX4_checkSlot 0 = .ok (.iload_n 0, 1) := by decide +kernel
theorem dX4_checkSlot_1 : decode cX4_checkSlot 1 = .ok (.ifCond .lt 8, 3) := by decide +kernel
theorem dX4_checkSlot_4 : decode cX4_checkSlot 4 = .ok (.iload_n 0, 1) := by decide +kernel
theorem dX4_checkSlot_5 : decode cX4_checkSlot 5 = .ok (.iconst 2, 1) := by decide +kernel
theorem dX4_checkSlot_6 : decode cX4_checkSlot 6 = .ok (.if_icmp .lt 14, 3) := by decide +kernel
theorem dX4_checkSlot_9 : decode cX4_checkSlot 9 = .ok (.new 69, 3) := by decide +kernel
theorem dX4_checkSlot_12 : decode cX4_checkSlot 12 = .ok (.dup, 1) := by decide +kernel
theorem dX4_checkSlot_13 : decode cX4_checkSlot 13 = .ok (.ldc_w 297, 3) := by decide +kernel
theorem dX4_checkSlot_16 : decode cX4_checkSlot 16 = .ok (.invokespecial 73, 3) := by decide +kernel
theorem dX4_checkSlot_19 : decode cX4_checkSlot 19 = .ok (.athrow, 1) := by decide +kernel
theorem dX4_checkSlot_20 : decode cX4_checkSlot 20 = .ok (.return_, 1) := by decide +kernel
theorem dX4_bestOfAllSets_0 : decode cX4_bestOfAllSets 0 = .ok (.iconst (-1), 1) := by decide +kernel
theorem dX4_bestOfAllSets_1 : decode cX4_bestOfAllSets 1 = .ok (.istore_n 2, 1) := by decide +kernel
theorem dX4_bestOfAllSets_2 : decode cX4_bestOfAllSets 2 = .ok (.iconst 1, 1) := by decide +kernel
theorem dX4_bestOfAllSets_3 : decode cX4_bestOfAllSets 3 = .ok (.istore_n 3, 1) := by decide +kernel
theorem dX4_bestOfAllSets_4 : decode cX4_bestOfAllSets 4 = .ok (.iload_n 3, 1) := by decide +kernel
theorem dX4_bestOfAllSets_5 : decode cX4_bestOfAllSets 5 = .ok (.sipush 128, 3) := by decide +kernel
theorem dX4_bestOfAllSets_8 : decode cX4_bestOfAllSets 8 = .ok (.if_icmp .ge 24, 3) := by decide +kernel
theorem dX4_bestOfAllSets_11 : decode cX4_bestOfAllSets 11 = .ok (.aload_n 0, 1) := by decide +kernel
theorem dX4_bestOfAllSets_12 : decode cX4_bestOfAllSets 12 = .ok (.iload_n 3, 1) := by decide +kernel
theorem dX4_bestOfAllSets_13 : decode cX4_bestOfAllSets 13 = .ok (.invokestatic 309, 3) := by decide +kernel
theorem dX4_bestOfAllSets_16 : decode cX4_bestOfAllSets 16 = .ok (.iload_n 1, 1) := by decide +kernel
theorem dX4_bestOfAllSets_17 : decode cX4_bestOfAllSets 17 = .ok (.if_icmp .ne 9, 3) := by decide +kernel
theorem dX4_bestOfAllSets_20 : decode cX4_bestOfAllSets 20 = .ok (.iload_n 3, 1) := by decide +kernel
theorem dX4_bestOfAllSets_21 : decode cX4_bestOfAllSets 21 = .ok (.iload_n 2, 1) := by decide +kernel
theorem dX4_bestOfAllSets_22 : decode cX4_bestOfAllSets 22 = .ok (.invokestatic 312, 3) := by decide +kernel
theorem dX4_bestOfAllSets_25 : decode cX4_bestOfAllSets 25 = .ok (.istore_n 2, 1) := by decide +kernel
theorem dX4_bestOfAllSets_26 : decode cX4_bestOfAllSets 26 = .ok (.iinc 3 1, 3) := by decide +kernel
theorem dX4_bestOfAllSets_29 : decode cX4_bestOfAllSets 29 = .ok (.goto (-25), 3) := by decide +kernel
theorem dX4_bestOfAllSets_32 : decode cX4_bestOfAllSets 32 = .ok (.iload_n 2, 1) := by decide +kernel
theorem dX4_bestOfAllSets_33 : decode cX4_bestOfAllSets 33 = .ok (.ireturn, 1) := by decide +kernel
theorem dX4_toldBySet_0 : decode cX4_toldBySet 0 = .ok (.iconst 0, 1) := by decide +kernel
theorem dX4_toldBySet_1 : decode cX4_toldBySet 1 = .ok (.istore_n 2, 1) := by decide +kernel
theorem dX4_toldBySet_2 : decode cX4_toldBySet 2 = .ok (.iconst 0, 1) := by decide +kernel
theorem dX4_toldBySet_3 : decode cX4_toldBySet 3 = .ok (.istore_n 3, 1) := by decide +kernel
theorem dX4_toldBySet_4 : decode cX4_toldBySet 4 = .ok (.iload_n 3, 1) := by decide +kernel
theorem dX4_toldBySet_5 : decode cX4_toldBySet 5 = .ok (.bipush 7, 2) := by decide +kernel
theorem dX4_toldBySet_7 : decode cX4_toldBySet 7 = .ok (.if_icmp .ge 24, 3) := by decide +kernel
theorem dX4_toldBySet_10 : decode cX4_toldBySet 10 = .ok (.iload_n 1, 1) := by decide +kernel
theorem dX4_toldBySet_11 : decode cX4_toldBySet 11 = .ok (.iload_n 3, 1) := by decide +kernel
theorem dX4_toldBySet_12 : decode cX4_toldBySet 12 = .ok (.ishr, 1) := by decide +kernel
theorem dX4_toldBySet_13 : decode cX4_toldBySet 13 = .ok (.iconst 1, 1) := by decide +kernel
theorem dX4_toldBySet_14 : decode cX4_toldBySet 14 = .ok (.iand, 1) := by decide +kernel
theorem dX4_toldBySet_15 : decode cX4_toldBySet 15 = .ok (.iconst 1, 1) := by decide +kernel
theorem dX4_toldBySet_16 : decode cX4_toldBySet 16 = .ok (.if_icmp .ne 9, 3) := by decide +kernel
theorem dX4_toldBySet_19 : decode cX4_toldBySet 19 = .ok (.iload_n 2, 1) := by decide +kernel
theorem dX4_toldBySet_20 : decode cX4_toldBySet 20 = .ok (.aload_n 0, 1) := by decide +kernel
theorem dX4_toldBySet_21 : decode cX4_toldBySet 21 = .ok (.iload_n 3, 1) := by decide +kernel
theorem dX4_toldBySet_22 : decode cX4_toldBySet 22 = .ok (.iaload, 1) := by decide +kernel
theorem dX4_toldBySet_23 : decode cX4_toldBySet 23 = .ok (.iadd, 1) := by decide +kernel
theorem dX4_toldBySet_24 : decode cX4_toldBySet 24 = .ok (.istore_n 2, 1) := by decide +kernel
theorem dX4_toldBySet_25 : decode cX4_toldBySet 25 = .ok (.iinc 3 1, 3) := by decide +kernel
theorem dX4_toldBySet_28 : decode cX4_toldBySet 28 = .ok (.goto (-24), 3) := by decide +kernel
theorem dX4_toldBySet_31 : decode cX4_toldBySet 31 = .ok (.iload_n 2, 1) := by decide +kernel
theorem dX4_toldBySet_32 : decode cX4_toldBySet 32 = .ok (.ireturn, 1) := by decide +kernel
theorem dX4_bestByTrying_0 : decode cX4_bestByTrying 0 = .ok (.iload_n 2, 1) := by decide +kernel
theorem dX4_bestByTrying_1 : decode cX4_bestByTrying 1 = .ok (.ifCond .ne 10, 3) := by decide +kernel
theorem dX4_bestByTrying_4 : decode cX4_bestByTrying 4 = .ok (.iload_n 3, 1) := by decide +kernel
theorem dX4_bestByTrying_5 : decode cX4_bestByTrying 5 = .ok (.iload 4, 2) := by decide +kernel
theorem dX4_bestByTrying_7 : decode cX4_bestByTrying 7 = .ok (.invokestatic 312, 3) := by decide +kernel
theorem dX4_bestByTrying_10 : decode cX4_bestByTrying 10 = .ok (.ireturn, 1) := by decide +kernel
theorem dX4_bestByTrying_11 : decode cX4_bestByTrying 11 = .ok (.iload_n 2, 1) := by decide +kernel
theorem dX4_bestByTrying_12 : decode cX4_bestByTrying 12 = .ok (.ifCond .lt 9, 3) := by decide +kernel
theorem dX4_bestByTrying_15 : decode cX4_bestByTrying 15 = .ok (.iload_n 1, 1) := by decide +kernel
theorem dX4_bestByTrying_16 : decode cX4_bestByTrying 16 = .ok (.bipush 7, 2) := by decide +kernel
theorem dX4_bestByTrying_18 : decode cX4_bestByTrying 18 = .ok (.if_icmp .lt 6, 3) := by decide +kernel
theorem dX4_bestByTrying_21 : decode cX4_bestByTrying 21 = .ok (.iload 4, 2) := by decide +kernel
theorem dX4_bestByTrying_23 : decode cX4_bestByTrying 23 = .ok (.ireturn, 1) := by decide +kernel
theorem dX4_bestByTrying_24 : decode cX4_bestByTrying 24 = .ok (.aload_n 0, 1) := by decide +kernel
theorem dX4_bestByTrying_25 : decode cX4_bestByTrying 25 = .ok (.iload_n 1, 1) := by decide +kernel
theorem dX4_bestByTrying_26 : decode cX4_bestByTrying 26 = .ok (.iconst 1, 1) := by decide +kernel
theorem dX4_bestByTrying_27 : decode cX4_bestByTrying 27 = .ok (.iadd, 1) := by decide +kernel
theorem dX4_bestByTrying_28 : decode cX4_bestByTrying 28 = .ok (.iload_n 2, 1) := by decide +kernel
theorem dX4_bestByTrying_29 : decode cX4_bestByTrying 29 = .ok (.aload_n 0, 1) := by decide +kernel
theorem dX4_bestByTrying_30 : decode cX4_bestByTrying 30 = .ok (.iload_n 1, 1) := by decide +kernel
theorem dX4_bestByTrying_31 : decode cX4_bestByTrying 31 = .ok (.iaload, 1) := by decide +kernel
theorem dX4_bestByTrying_32 : decode cX4_bestByTrying 32 = .ok (.isub, 1) := by decide +kernel
theorem dX4_bestByTrying_33 : decode cX4_bestByTrying 33 = .ok (.iload_n 3, 1) := by decide +kernel
theorem dX4_bestByTrying_34 : decode cX4_bestByTrying 34 = .ok (.iconst 1, 1) := by decide +kernel
theorem dX4_bestByTrying_35 : decode cX4_bestByTrying 35 = .ok (.iload_n 1, 1) := by decide +kernel
theorem dX4_bestByTrying_36 : decode cX4_bestByTrying 36 = .ok (.ishl, 1) := by decide +kernel
theorem dX4_bestByTrying_37 : decode cX4_bestByTrying 37 = .ok (.ior, 1) := by decide +kernel
theorem dX4_bestByTrying_38 : decode cX4_bestByTrying 38 = .ok (.iload 4, 2) := by decide +kernel
theorem dX4_bestByTrying_40 : decode cX4_bestByTrying 40 = .ok (.invokestatic 240, 3) := by decide +kernel
theorem dX4_bestByTrying_43 : decode cX4_bestByTrying 43 = .ok (.istore 5, 2) := by decide +kernel
theorem dX4_bestByTrying_45 : decode cX4_bestByTrying 45 = .ok (.aload_n 0, 1) := by decide +kernel
theorem dX4_bestByTrying_46 : decode cX4_bestByTrying 46 = .ok (.iload_n 1, 1) := by decide +kernel
theorem dX4_bestByTrying_47 : decode cX4_bestByTrying 47 = .ok (.iconst 1, 1) := by decide +kernel
theorem dX4_bestByTrying_48 : decode cX4_bestByTrying 48 = .ok (.iadd, 1) := by decide +kernel
theorem dX4_bestByTrying_49 : decode cX4_bestByTrying 49 = .ok (.iload_n 2, 1) := by decide +kernel
theorem dX4_bestByTrying_50 : decode cX4_bestByTrying 50 = .ok (.iload_n 3, 1) := by decide +kernel
theorem dX4_bestByTrying_51 : decode cX4_bestByTrying 51 = .ok (.iload 5, 2) := by decide +kernel
theorem dX4_bestByTrying_53 : decode cX4_bestByTrying 53 = .ok (.invokestatic 240, 3) := by decide +kernel
theorem dX4_bestByTrying_56 : decode cX4_bestByTrying 56 = .ok (.ireturn, 1) := by decide +kernel
theorem dX4_better_0 : decode cX4_better 0 = .ok (.iload_n 1, 1) := by decide +kernel
theorem dX4_better_1 : decode cX4_better 1 = .ok (.iconst (-1), 1) := by decide +kernel
theorem dX4_better_2 : decode cX4_better 2 = .ok (.if_icmp .ne 5, 3) := by decide +kernel
theorem dX4_better_5 : decode cX4_better 5 = .ok (.iload_n 0, 1) := by decide +kernel
theorem dX4_better_6 : decode cX4_better 6 = .ok (.ireturn, 1) := by decide +kernel
theorem dX4_better_7 : decode cX4_better 7 = .ok (.iload_n 0, 1) := by decide +kernel
theorem dX4_better_8 : decode cX4_better 8 = .ok (.invokestatic 315, 3) := by decide +kernel
theorem dX4_better_11 : decode cX4_better 11 = .ok (.iload_n 1, 1) := by decide +kernel
theorem dX4_better_12 : decode cX4_better 12 = .ok (.invokestatic 315, 3) := by decide +kernel
theorem dX4_better_15 : decode cX4_better 15 = .ok (.invokestatic 320, 3) := by decide +kernel
theorem dX4_better_18 : decode cX4_better 18 = .ok (.istore_n 2, 1) := by decide +kernel
theorem dX4_better_19 : decode cX4_better 19 = .ok (.iload_n 2, 1) := by decide +kernel
theorem dX4_better_20 : decode cX4_better 20 = .ok (.ifCond .lt 12, 3) := by decide +kernel
theorem dX4_better_23 : decode cX4_better 23 = .ok (.iload_n 2, 1) := by decide +kernel
theorem dX4_better_24 : decode cX4_better 24 = .ok (.ifCond .ne 12, 3) := by decide +kernel
theorem dX4_better_27 : decode cX4_better 27 = .ok (.iload_n 0, 1) := by decide +kernel
theorem dX4_better_28 : decode cX4_better 28 = .ok (.iload_n 1, 1) := by decide +kernel
theorem dX4_better_29 : decode cX4_better 29 = .ok (.if_icmp .ge 7, 3) := by decide +kernel
theorem dX4_better_32 : decode cX4_better 32 = .ok (.iload_n 0, 1) := by decide +kernel
theorem dX4_better_33 : decode cX4_better 33 = .ok (.goto 4, 3) := by decide +kernel
theorem dX4_better_36 : decode cX4_better 36 = .ok (.iload_n 1, 1) := by decide +kernel
theorem dX4_better_37 : decode cX4_better 37 = .ok (.ireturn, 1) := by decide +kernel
theorem dJ6_compare_7cf53_0 : decode cJ6_compare_7cf53 0 = .ok (.iload_n 0, 1) := by decide +kernel
theorem dJ6_compare_7cf53_1 : decode cJ6_compare_7cf53 1 = .ok (.iload_n 1, 1) := by decide +kernel
theorem dJ6_compare_7cf53_2 : decode cJ6_compare_7cf53 2 = .ok (.if_icmp .ge 7, 3) := by decide +kernel
theorem dJ6_compare_7cf53_5 : decode cJ6_compare_7cf53 5 = .ok (.iconst (-1), 1) := by decide +kernel
theorem dJ6_compare_7cf53_6 : decode cJ6_compare_7cf53 6 = .ok (.goto 13, 3) := by decide +kernel
theorem dJ6_compare_7cf53_9 : decode cJ6_compare_7cf53 9 = .ok (.iload_n 0, 1) := by decide +kernel
theorem dJ6_compare_7cf53_10 : decode cJ6_compare_7cf53 10 = .ok (.iload_n 1, 1) := by decide +kernel
theorem dJ6_compare_7cf53_11 : decode cJ6_compare_7cf53 11 = .ok (.if_icmp .ne 7, 3) := by decide +kernel
theorem dJ6_compare_7cf53_14 : decode cJ6_compare_7cf53 14 = .ok (.iconst 0, 1) := by decide +kernel
theorem dJ6_compare_7cf53_15 : decode cJ6_compare_7cf53 15 = .ok (.goto 4, 3) := by decide +kernel
theorem dJ6_compare_7cf53_18 : decode cJ6_compare_7cf53 18 = .ok (.iconst 1, 1) := by decide +kernel
theorem dJ6_compare_7cf53_19 : decode cJ6_compare_7cf53 19 = .ok (.ireturn, 1) := by decide +kernel
theorem dJ6_bitCount_0f7a4_0 : decode cJ6_bitCount_0f7a4 0 = .ok (.iload_n 0, 1) := by decide +kernel
theorem dJ6_bitCount_0f7a4_1 : decode cJ6_bitCount_0f7a4 1 = .ok (.iload_n 0, 1) := by decide +kernel
theorem dJ6_bitCount_0f7a4_2 : decode cJ6_bitCount_0f7a4 2 = .ok (.iconst 1, 1) := by decide +kernel
theorem dJ6_bitCount_0f7a4_3 : decode cJ6_bitCount_0f7a4 3 = .ok (.iushr, 1) := by decide +kernel
theorem dJ6_bitCount_0f7a4_4 : decode cJ6_bitCount_0f7a4 4 = .ok (.ldc_w 265, 3) := by decide +kernel
theorem dJ6_bitCount_0f7a4_7 : decode cJ6_bitCount_0f7a4 7 = .ok (.iand, 1) := by decide +kernel
theorem dJ6_bitCount_0f7a4_8 : decode cJ6_bitCount_0f7a4 8 = .ok (.isub, 1) := by decide +kernel
theorem dJ6_bitCount_0f7a4_9 : decode cJ6_bitCount_0f7a4 9 = .ok (.istore_n 0, 1) := by decide +kernel
theorem dJ6_bitCount_0f7a4_10 : decode cJ6_bitCount_0f7a4 10 = .ok (.iload_n 0, 1) := by decide +kernel
theorem dJ6_bitCount_0f7a4_11 : decode cJ6_bitCount_0f7a4 11 = .ok (.ldc_w 266, 3) := by decide +kernel
theorem dJ6_bitCount_0f7a4_14 : decode cJ6_bitCount_0f7a4 14 = .ok (.iand, 1) := by decide +kernel
theorem dJ6_bitCount_0f7a4_15 : decode cJ6_bitCount_0f7a4 15 = .ok (.iload_n 0, 1) := by decide +kernel
theorem dJ6_bitCount_0f7a4_16 : decode cJ6_bitCount_0f7a4 16 = .ok (.iconst 2, 1) := by decide +kernel
theorem dJ6_bitCount_0f7a4_17 : decode cJ6_bitCount_0f7a4 17 = .ok (.iushr, 1) := by decide +kernel
theorem dJ6_bitCount_0f7a4_18 : decode cJ6_bitCount_0f7a4 18 = .ok (.ldc_w 266, 3) := by decide +kernel
theorem dJ6_bitCount_0f7a4_21 : decode cJ6_bitCount_0f7a4 21 = .ok (.iand, 1) := by decide +kernel
theorem dJ6_bitCount_0f7a4_22 : decode cJ6_bitCount_0f7a4 22 = .ok (.iadd, 1) := by decide +kernel
theorem dJ6_bitCount_0f7a4_23 : decode cJ6_bitCount_0f7a4 23 = .ok (.istore_n 0, 1) := by decide +kernel
theorem dJ6_bitCount_0f7a4_24 : decode cJ6_bitCount_0f7a4 24 = .ok (.iload_n 0, 1) := by decide +kernel
theorem dJ6_bitCount_0f7a4_25 : decode cJ6_bitCount_0f7a4 25 = .ok (.iload_n 0, 1) := by decide +kernel
theorem dJ6_bitCount_0f7a4_26 : decode cJ6_bitCount_0f7a4 26 = .ok (.iconst 4, 1) := by decide +kernel
theorem dJ6_bitCount_0f7a4_27 : decode cJ6_bitCount_0f7a4 27 = .ok (.iushr, 1) := by decide +kernel
theorem dJ6_bitCount_0f7a4_28 : decode cJ6_bitCount_0f7a4 28 = .ok (.iadd, 1) := by decide +kernel
theorem dJ6_bitCount_0f7a4_29 : decode cJ6_bitCount_0f7a4 29 = .ok (.ldc_w 267, 3) := by decide +kernel
theorem dJ6_bitCount_0f7a4_32 : decode cJ6_bitCount_0f7a4 32 = .ok (.iand, 1) := by decide +kernel
theorem dJ6_bitCount_0f7a4_33 : decode cJ6_bitCount_0f7a4 33 = .ok (.istore_n 0, 1) := by decide +kernel
theorem dJ6_bitCount_0f7a4_34 : decode cJ6_bitCount_0f7a4 34 = .ok (.iload_n 0, 1) := by decide +kernel
theorem dJ6_bitCount_0f7a4_35 : decode cJ6_bitCount_0f7a4 35 = .ok (.iload_n 0, 1) := by decide +kernel
theorem dJ6_bitCount_0f7a4_36 : decode cJ6_bitCount_0f7a4 36 = .ok (.bipush 8, 2) := by decide +kernel
theorem dJ6_bitCount_0f7a4_38 : decode cJ6_bitCount_0f7a4 38 = .ok (.iushr, 1) := by decide +kernel
theorem dJ6_bitCount_0f7a4_39 : decode cJ6_bitCount_0f7a4 39 = .ok (.iadd, 1) := by decide +kernel
theorem dJ6_bitCount_0f7a4_40 : decode cJ6_bitCount_0f7a4 40 = .ok (.istore_n 0, 1) := by decide +kernel
theorem dJ6_bitCount_0f7a4_41 : decode cJ6_bitCount_0f7a4 41 = .ok (.iload_n 0, 1) := by decide +kernel
theorem dJ6_bitCount_0f7a4_42 : decode cJ6_bitCount_0f7a4 42 = .ok (.iload_n 0, 1) := by decide +kernel
theorem dJ6_bitCount_0f7a4_43 : decode cJ6_bitCount_0f7a4 43 = .ok (.bipush 16, 2) := by decide +kernel
theorem dJ6_bitCount_0f7a4_45 : decode cJ6_bitCount_0f7a4 45 = .ok (.iushr, 1) := by decide +kernel
theorem dJ6_bitCount_0f7a4_46 : decode cJ6_bitCount_0f7a4 46 = .ok (.iadd, 1) := by decide +kernel
theorem dJ6_bitCount_0f7a4_47 : decode cJ6_bitCount_0f7a4 47 = .ok (.istore_n 0, 1) := by decide +kernel
theorem dJ6_bitCount_0f7a4_48 : decode cJ6_bitCount_0f7a4 48 = .ok (.iload_n 0, 1) := by decide +kernel
theorem dJ6_bitCount_0f7a4_49 : decode cJ6_bitCount_0f7a4 49 = .ok (.bipush 63, 2) := by decide +kernel
theorem dJ6_bitCount_0f7a4_51 : decode cJ6_bitCount_0f7a4 51 = .ok (.iand, 1) := by decide +kernel
theorem dJ6_bitCount_0f7a4_52 : decode cJ6_bitCount_0f7a4 52 = .ok (.ireturn, 1) := by decide +kernel
theorem dJ9_max_7cf53_0 : decode cJ9_max_7cf53 0 = .ok (.iload_n 0, 1) := by decide +kernel
theorem dJ9_max_7cf53_1 : decode cJ9_max_7cf53 1 = .ok (.iload_n 1, 1) := by decide +kernel
theorem dJ9_max_7cf53_2 : decode cJ9_max_7cf53 2 = .ok (.if_icmp .lt 7, 3) := by decide +kernel
theorem dJ9_max_7cf53_5 : decode cJ9_max_7cf53 5 = .ok (.iload_n 0, 1) := by decide +kernel
theorem dJ9_max_7cf53_6 : decode cJ9_max_7cf53 6 = .ok (.goto 4, 3) := by decide +kernel
theorem dJ9_max_7cf53_9 : decode cJ9_max_7cf53 9 = .ok (.iload_n 1, 1) := by decide +kernel
theorem dJ9_max_7cf53_10 : decode cJ9_max_7cf53 10 = .ok (.ireturn, 1) := by decide +kernel
theorem dJ9_min_7cf53_0 : decode cJ9_min_7cf53 0 = .ok (.iload_n 0, 1) := by decide +kernel
theorem dJ9_min_7cf53_1 : decode cJ9_min_7cf53 1 = .ok (.iload_n 1, 1) := by decide +kernel
theorem dJ9_min_7cf53_2 : decode cJ9_min_7cf53 2 = .ok (.if_icmp .gt 7, 3) := by decide +kernel
theorem dJ9_min_7cf53_5 : decode cJ9_min_7cf53 5 = .ok (.iload_n 0, 1) := by decide +kernel
theorem dJ9_min_7cf53_6 : decode cJ9_min_7cf53 6 = .ok (.goto 4, 3) := by decide +kernel
theorem dJ9_min_7cf53_9 : decode cJ9_min_7cf53 9 = .ok (.iload_n 1, 1) := by decide +kernel
theorem dJ9_min_7cf53_10 : decode cJ9_min_7cf53 10 = .ok (.ireturn, 1) := by decide +kernel
