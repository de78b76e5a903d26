theorem dX0_init_0 : decode cX0_init 0 = .ok (.aload_n 0, 1) := by decide +kernel
theorem dX0_init_1 : decode cX0_init 1 = .ok (.invokespecial 3, 3) := by decide +kernel
theorem dX0_init_4 : decode cX0_init 4 = .ok (.aload_n 0, 1) := by decide +kernel
theorem dX0_init_5 : decode cX0_init 5 = .ok (.bipush 6, 2) := by decide +kernel
theorem dX0_init_7 : decode cX0_init 7 = .ok (.newarray .int, 2) := by decide +kernel
theorem dX0_init_9 : decode cX0_init 9 = .ok (.putfield 9, 3) := by decide +kernel
theorem dX0_init_12 : decode cX0_init 12 = .ok (.aload_n 0, 1) := by decide +kernel
theorem dX0_init_13 : decode cX0_init 13 = .ok (.bipush 6, 2) := by decide +kernel
theorem dX0_init_15 : decode cX0_init 15 = .ok (.newarray .int, 2) := by decide +kernel
theorem dX0_init_17 : decode cX0_init 17 = .ok (.putfield 15, 3) := by decide +kernel
theorem dX0_init_20 : decode cX0_init 20 = .ok (.aload_n 0, 1) := by decide +kernel
theorem dX0_init_21 : decode cX0_init 21 = .ok (.bipush 16, 2) := by decide +kernel
theorem dX0_init_23 : decode cX0_init 23 = .ok (.newarray .int, 2) := by decide +kernel
theorem dX0_init_25 : decode cX0_init 25 = .ok (.putfield 18, 3) := by decide +kernel
theorem dX0_init_28 : decode cX0_init 28 = .ok (.aload_n 0, 1) := by decide +kernel
theorem dX0_init_29 : decode cX0_init 29 = .ok (.iconst 0, 1) := by decide +kernel
theorem dX0_init_30 : decode cX0_init 30 = .ok (.putfield 21, 3) := by decide +kernel
theorem dX0_init_33 : decode cX0_init 33 = .ok (.aload_n 0, 1) := by decide +kernel
theorem dX0_init_34 : decode cX0_init 34 = .ok (.iconst 0, 1) := by decide +kernel
theorem dX0_init_35 : decode cX0_init 35 = .ok (.putfield 25, 3) := by decide +kernel
theorem dX0_init_38 : decode cX0_init 38 = .ok (.aload_n 0, 1) := by decide +kernel
theorem dX0_init_39 : decode cX0_init 39 = .ok (.iconst 0, 1) := by decide +kernel
theorem dX0_init_40 : decode cX0_init 40 = .ok (.putfield 28, 3) := by decide +kernel
theorem dX0_init_43 : decode cX0_init 43 = .ok (.return_, 1) := by decide +kernel
theorem dX0_copyFrom_0 : decode cX0_copyFrom 0 = .ok (.aload_n 1, 1) := by decide +kernel
theorem dX0_copyFrom_1 : decode cX0_copyFrom 1 = .ok (.getfield 9, 3) := by decide +kernel
theorem dX0_copyFrom_4 : decode cX0_copyFrom 4 = .ok (.iconst 0, 1) := by decide +kernel
theorem dX0_copyFrom_5 : decode cX0_copyFrom 5 = .ok (.aload_n 0, 1) := by decide +kernel
theorem dX0_copyFrom_6 : decode cX0_copyFrom 6 = .ok (.getfield 9, 3) := by decide +kernel
theorem dX0_copyFrom_9 : decode cX0_copyFrom 9 = .ok (.iconst 0, 1) := by decide +kernel
theorem dX0_copyFrom_10 : decode cX0_copyFrom 10 = .ok (.bipush 6, 2) := by decide +kernel
theorem dX0_copyFrom_12 : decode cX0_copyFrom 12 = .ok (.invokestatic 31, 3) := by decide +kernel
theorem dX0_copyFrom_15 : decode cX0_copyFrom 15 = .ok (.aload_n 1, 1) := by decide +kernel
theorem dX0_copyFrom_16 : decode cX0_copyFrom 16 = .ok (.getfield 15, 3) := by decide +kernel
theorem dX0_copyFrom_19 : decode cX0_copyFrom 19 = .ok (.iconst 0, 1) := by decide +kernel
theorem dX0_copyFrom_20 : decode cX0_copyFrom 20 = .ok (.aload_n 0, 1) := by decide +kernel
theorem dX0_copyFrom_21 : decode cX0_copyFrom 21 = .ok (.getfield 15, 3) := by decide +kernel
theorem dX0_copyFrom_24 : decode cX0_copyFrom 24 = .ok (.iconst 0, 1) := by decide +kernel
theorem dX0_copyFrom_25 : decode cX0_copyFrom 25 = .ok (.bipush 6, 2) := by decide +kernel
theorem dX0_copyFrom_27 : decode cX0_copyFrom 27 = .ok (.invokestatic 31, 3) := by decide +kernel
theorem dX0_copyFrom_30 : decode cX0_copyFrom 30 = .ok (.aload_n 1, 1) := by decide +kernel
theorem dX0_copyFrom_31 : decode cX0_copyFrom 31 = .ok (.getfield 18, 3) := by decide +kernel
theorem dX0_copyFrom_34 : decode cX0_copyFrom 34 = .ok (.iconst 0, 1) := by decide +kernel
theorem dX0_copyFrom_35 : decode cX0_copyFrom 35 = .ok (.aload_n 0, 1) := by decide +kernel
theorem dX0_copyFrom_36 : decode cX0_copyFrom 36 = .ok (.getfield 18, 3) := by decide +kernel
theorem dX0_copyFrom_39 : decode cX0_copyFrom 39 = .ok (.iconst 0, 1) := by decide +kernel
theorem dX0_copyFrom_40 : decode cX0_copyFrom 40 = .ok (.bipush 16, 2) := by decide +kernel
theorem dX0_copyFrom_42 : decode cX0_copyFrom 42 = .ok (.invokestatic 31, 3) := by decide +kernel
theorem dX0_copyFrom_45 : decode cX0_copyFrom 45 = .ok (.aload_n 0, 1) := by decide +kernel
theorem dX0_copyFrom_46 : decode cX0_copyFrom 46 = .ok (.aload_n 1, 1) := by decide +kernel
theorem dX0_copyFrom_47 : decode cX0_copyFrom 47 = .ok (.getfield 21, 3) := by decide +kernel
theorem dX0_copyFrom_50 : decode cX0_copyFrom 50 = .ok (.putfield 21, 3) := by decide +kernel
theorem dX0_copyFrom_53 : decode cX0_copyFrom 53 = .ok (.aload_n 0, 1) := by decide +kernel
theorem dX0_copyFrom_54 : decode cX0_copyFrom 54 = .ok (.aload_n 1, 1) := by decide +kernel
theorem dX0_copyFrom_55 : decode cX0_copyFrom 55 = .ok (.getfield 25, 3) := by decide +kernel
theorem dX0_copyFrom_58 : decode cX0_copyFrom 58 = .ok (.putfield 25, 3) := by decide +kernel
theorem dX0_copyFrom_61 : decode cX0_copyFrom 61 = .ok (.aload_n 0, 1) := by decide +kernel
theorem dX0_copyFrom_62 : decode cX0_copyFrom 62 = .ok (.aload_n 1, 1) := by decide +kernel
theorem dX0_copyFrom_63 : decode cX0_copyFrom 63 = .ok (.getfield 28, 3) := by decide +kernel
theorem dX0_copyFrom_66 : decode cX0_copyFrom 66 = .ok (.putfield 28, 3) := by decide +kernel
theorem dX0_copyFrom_69 : decode cX0_copyFrom 69 = .ok (.return_, 1) := by decide +kernel
theorem dX0_becomeNew_0 : decode cX0_becomeNew 0 = .ok (.iconst 0, 1) := by decide +kernel
theorem dX0_becomeNew_1 : decode cX0_becomeNew 1 = .ok (.istore_n 1, 1) := by decide +kernel
theorem dX0_becomeNew_2 : decode cX0_becomeNew 2 = .ok (.iload_n 1, 1) := by decide +kernel
theorem dX0_becomeNew_3 : decode cX0_becomeNew 3 = .ok (.bipush 6, 2) := by decide +kernel
theorem dX0_becomeNew_5 : decode cX0_becomeNew 5 = .ok (.if_icmp .ge 23, 3) := by decide +kernel
theorem dX0_becomeNew_8 : decode cX0_becomeNew 8 = .ok (.aload_n 0, 1) := by decide +kernel
theorem dX0_becomeNew_9 : decode cX0_becomeNew 9 = .ok (.getfield 9, 3) := by decide +kernel
theorem dX0_becomeNew_12 : decode cX0_becomeNew 12 = .ok (.iload_n 1, 1) := by decide +kernel
theorem dX0_becomeNew_13 : decode cX0_becomeNew 13 = .ok (.iconst 0, 1) := by decide +kernel
theorem dX0_becomeNew_14 : decode cX0_becomeNew 14 = .ok (.iastore, 1) := by decide +kernel
theorem dX0_becomeNew_15 : decode cX0_becomeNew 15 = .ok (.aload_n 0, 1) := by decide +kernel
theorem dX0_becomeNew_16 : decode cX0_becomeNew 16 = .ok (.getfield 15, 3) := by decide +kernel
theorem dX0_becomeNew_19 : decode cX0_becomeNew 19 = .ok (.iload_n 1, 1) := by decide +kernel
theorem dX0_becomeNew_20 : decode cX0_becomeNew 20 = .ok (.iconst 0, 1) := by decide +kernel
theorem dX0_becomeNew_21 : decode cX0_becomeNew 21 = .ok (.iastore, 1) := by decide +kernel
theorem dX0_becomeNew_22 : decode cX0_becomeNew 22 = .ok (.iinc 1 1, 3) := by decide +kernel
theorem dX0_becomeNew_25 : decode cX0_becomeNew 25 = .ok (.goto (-23), 3) := by decide +kernel
theorem dX0_becomeNew_28 : decode cX0_becomeNew 28 = .ok (.aload_n 0, 1) := by decide +kernel
theorem dX0_becomeNew_29 : decode cX0_becomeNew 29 = .ok (.iconst 0, 1) := by decide +kernel
theorem dX0_becomeNew_30 : decode cX0_becomeNew 30 = .ok (.putfield 21, 3) := by decide +kernel
theorem dX0_becomeNew_33 : decode cX0_becomeNew 33 = .ok (.aload_n 0, 1) := by decide +kernel
theorem dX0_becomeNew_34 : decode cX0_becomeNew 34 = .ok (.iconst 0, 1) := by decide +kernel
theorem dX0_becomeNew_35 : decode cX0_becomeNew 35 = .ok (.putfield 28, 3) := by decide +kernel
theorem dX0_becomeNew_38 : decode cX0_becomeNew 38 = .ok (.return_, 1) := by decide +kernel
theorem dX0_open_0 : decode cX0_open 0 = .ok (.aload_n 0, 1) := by decide +kernel
theorem dX0_open_1 : decode cX0_open 1 = .ok (.getfield 9, 3) := by decide +kernel
theorem dX0_open_4 : decode cX0_open 4 = .ok (.iload_n 1, 1) := by decide +kernel
theorem dX0_open_5 : decode cX0_open 5 = .ok (.iaload, 1) := by decide +kernel
theorem dX0_open_6 : decode cX0_open 6 = .ok (.bipush 10, 2) := by decide +kernel
theorem dX0_open_8 : decode cX0_open 8 = .ok (.aload_n 0, 1) := by decide +kernel
theorem dX0_open_9 : decode cX0_open 9 = .ok (.getfield 15, 3) := by decide +kernel
theorem dX0_open_12 : decode cX0_open 12 = .ok (.iload_n 1, 1) := by decide +kernel
theorem dX0_open_13 : decode cX0_open 13 = .ok (.iaload, 1) := by decide +kernel
theorem dX0_open_14 : decode cX0_open 14 = .ok (.imul, 1) := by decide +kernel
theorem dX0_open_15 : decode cX0_open 15 = .ok (.isub, 1) := by decide +kernel
theorem dX0_open_16 : decode cX0_open 16 = .ok (.ireturn, 1) := by decide +kernel
theorem dX0_tiesAt_0 : decode cX0_tiesAt 0 = .ok (.aload_n 0, 1) := by decide +kernel
theorem dX0_tiesAt_1 : decode cX0_tiesAt 1 = .ok (.getfield 9, 3) := by decide +kernel
theorem dX0_tiesAt_4 : decode cX0_tiesAt 4 = .ok (.iload_n 1, 1) := by decide +kernel
theorem dX0_tiesAt_5 : decode cX0_tiesAt 5 = .ok (.iaload, 1) := by decide +kernel
theorem dX0_tiesAt_6 : decode cX0_tiesAt 6 = .ok (.aload_n 0, 1) := by decide +kernel
theorem dX0_tiesAt_7 : decode cX0_tiesAt 7 = .ok (.getfield 15, 3) := by decide +kernel
theorem dX0_tiesAt_10 : decode cX0_tiesAt 10 = .ok (.iload_n 1, 1) := by decide +kernel
theorem dX0_tiesAt_11 : decode cX0_tiesAt 11 = .ok (.iaload, 1) := by decide +kernel
theorem dX0_tiesAt_12 : decode cX0_tiesAt 12 = .ok (.iadd, 1) := by decide +kernel
theorem dX0_tiesAt_13 : decode cX0_tiesAt 13 = .ok (.ireturn, 1) := by decide +kernel
theorem dX0_told_0 : decode cX0_told 0 = .ok (.iconst 0, 1) := by decide +kernel
theorem dX0_told_1 : decode cX0_told 1 = .ok (.istore_n 1, 1) := by decide +kernel
theorem dX0_told_2 : decode cX0_told 2 = .ok (.iconst 5, 1) := by decide +kernel
theorem dX0_told_3 : decode cX0_told 3 = .ok (.istore_n 2, 1) := by decide +kernel
theorem dX0_told_4 : decode cX0_told 4 = .ok (.iload_n 2, 1) := by decide +kernel
theorem dX0_told_5 : decode cX0_told 5 = .ok (.ifCond .lt 20, 3) := by decide +kernel
theorem dX0_told_8 : decode cX0_told 8 = .ok (.bipush 10, 2) := by decide +kernel
theorem dX0_told_10 : decode cX0_told 10 = .ok (.iload_n 1, 1) := by decide +kernel
theorem dX0_told_11 : decode cX0_told 11 = .ok (.imul, 1) := by decide +kernel
theorem dX0_told_12 : decode cX0_told 12 = .ok (.aload_n 0, 1) := by decide +kernel
theorem dX0_told_13 : decode cX0_told 13 = .ok (.iload_n 2, 1) := by decide +kernel
theorem dX0_told_14 : decode cX0_told 14 = .ok (.invokevirtual 37, 3) := by decide +kernel
theorem dX0_told_17 : decode cX0_told 17 = .ok (.iadd, 1) := by decide +kernel
theorem dX0_told_18 : decode cX0_told 18 = .ok (.istore_n 1, 1) := by decide +kernel
theorem dX0_told_19 : decode cX0_told 19 = .ok (.iinc 2 (-1), 3) := by decide +kernel
theorem dX0_told_22 : decode cX0_told 22 = .ok (.goto (-18), 3) := by decide +kernel
theorem dX0_told_25 : decode cX0_told 25 = .ok (.iload_n 1, 1) := by decide +kernel
theorem dX0_told_26 : decode cX0_told 26 = .ok (.ireturn, 1) := by decide +kernel
theorem dX0_partsTogether_0 : decode cX0_partsTogether 0 = .ok (.aload_n 0, 1) := by decide +kernel
theorem dX0_partsTogether_1 : decode cX0_partsTogether 1 = .ok (.getfield 18, 3) := by decide +kernel
theorem dX0_partsTogether_4 : decode cX0_partsTogether 4 = .ok (.aload_n 0, 1) := by decide +kernel
theorem dX0_partsTogether_5 : decode cX0_partsTogether 5 = .ok (.getfield 21, 3) := by decide +kernel
theorem dX0_partsTogether_8 : decode cX0_partsTogether 8 = .ok (.invokestatic 41, 3) := by decide +kernel
theorem dX0_partsTogether_11 : decode cX0_partsTogether 11 = .ok (.ireturn, 1) := by decide +kernel
theorem dX0_lack_0 : decode cX0_lack 0 = .ok (.aload_n 0, 1) := by decide +kernel
theorem dX0_lack_1 : decode cX0_lack 1 = .ok (.invokevirtual 45, 3) := by decide +kernel
theorem dX0_lack_4 : decode cX0_lack 4 = .ok (.aload_n 0, 1) := by decide +kernel
theorem dX0_lack_5 : decode cX0_lack 5 = .ok (.invokevirtual 49, 3) := by decide +kernel
theorem dX0_lack_8 : decode cX0_lack 8 = .ok (.isub, 1) := by decide +kernel
theorem dX0_lack_9 : decode cX0_lack 9 = .ok (.ireturn, 1) := by decide +kernel
theorem dX0_allKnots_0 : decode cX0_allKnots 0 = .ok (.aload_n 0, 1) := by decide +kernel
theorem dX0_allKnots_1 : decode cX0_allKnots 1 = .ok (.getfield 9, 3) := by decide +kernel
theorem dX0_allKnots_4 : decode cX0_allKnots 4 = .ok (.bipush 6, 2) := by decide +kernel
theorem dX0_allKnots_6 : decode cX0_allKnots 6 = .ok (.invokestatic 41, 3) := by decide +kernel
theorem dX0_allKnots_9 : decode cX0_allKnots 9 = .ok (.ireturn, 1) := by decide +kernel
theorem dX0_allLoops_0 : decode cX0_allLoops 0 = .ok (.aload_n 0, 1) := by decide +kernel
theorem dX0_allLoops_1 : decode cX0_allLoops 1 = .ok (.getfield 15, 3) := by decide +kernel
theorem dX0_allLoops_4 : decode cX0_allLoops 4 = .ok (.bipush 6, 2) := by decide +kernel
theorem dX0_allLoops_6 : decode cX0_allLoops 6 = .ok (.invokestatic 41, 3) := by decide +kernel
theorem dX0_allLoops_9 : decode cX0_allLoops 9 = .ok (.ireturn, 1) := by decide +kernel
theorem dX0_ties_0 : decode cX0_ties 0 = .ok (.aload_n 0, 1) := by decide +kernel
theorem dX0_ties_1 : decode cX0_ties 1 = .ok (.invokevirtual 52, 3) := by decide +kernel
theorem dX0_ties_4 : decode cX0_ties 4 = .ok (.aload_n 0, 1) := by decide +kernel
theorem dX0_ties_5 : decode cX0_ties 5 = .ok (.invokevirtual 55, 3) := by decide +kernel
theorem dX0_ties_8 : decode cX0_ties 8 = .ok (.iadd, 1) := by decide +kernel
theorem dX0_ties_9 : decode cX0_ties 9 = .ok (.ireturn, 1) := by decide +kernel
theorem dX0_refusal_0 : decode cX0_refusal 0 = .ok (.aload_n 0, 1) := by decide +kernel
theorem dX0_refusal_1 : decode cX0_refusal 1 = .ok (.invokevirtual 49, 3) := by decide +kernel
theorem dX0_refusal_4 : decode cX0_refusal 4 = .ok (.iload_n 1, 1) := by decide +kernel
theorem dX0_refusal_5 : decode cX0_refusal 5 = .ok (.iadd, 1) := by decide +kernel
theorem dX0_refusal_6 : decode cX0_refusal 6 = .ok (.ldc 58, 2) := by decide +kernel
theorem dX0_refusal_8 : decode cX0_refusal 8 = .ok (.if_icmp .le 5, 3) := by decide +kernel
theorem dX0_refusal_11 : decode cX0_refusal 11 = .ok (.iconst 1, 1) := by decide +kernel
theorem dX0_refusal_12 : decode cX0_refusal 12 = .ok (.ireturn, 1) := by decide +kernel
theorem dX0_refusal_13 : decode cX0_refusal 13 = .ok (.iload_n 1, 1) := by decide +kernel
theorem dX0_refusal_14 : decode cX0_refusal 14 = .ok (.istore_n 3, 1) := by decide +kernel
theorem dX0_refusal_15 : decode cX0_refusal 15 = .ok (.iconst 0, 1) := by decide +kernel
theorem dX0_refusal_16 : decode cX0_refusal 16 = .ok (.istore 4, 2) := by decide +kernel
theorem dX0_refusal_18 : decode cX0_refusal 18 = .ok (.iconst 0, 1) := by decide +kernel
theorem dX0_refusal_19 : decode cX0_refusal 19 = .ok (.istore 5, 2) := by decide +kernel
theorem dX0_refusal_21 : decode cX0_refusal 21 = .ok (.iload 5, 2) := by decide +kernel
theorem dX0_refusal_23 : decode cX0_refusal 23 = .ok (.bipush 6, 2) := by decide +kernel
theorem dX0_refusal_25 : decode cX0_refusal 25 = .ok (.if_icmp .ge 64, 3) := by decide +kernel
theorem dX0_refusal_28 : decode cX0_refusal 28 = .ok (.iload_n 3, 1) := by decide +kernel
theorem dX0_refusal_29 : decode cX0_refusal 29 = .ok (.bipush 10, 2) := by decide +kernel
theorem dX0_refusal_31 : decode cX0_refusal 31 = .ok (.irem, 1) := by decide +kernel
theorem dX0_refusal_32 : decode cX0_refusal 32 = .ok (.iload 4, 2) := by decide +kernel
theorem dX0_refusal_34 : decode cX0_refusal 34 = .ok (.iadd, 1) := by decide +kernel
theorem dX0_refusal_35 : decode cX0_refusal 35 = .ok (.istore 6, 2) := by decide +kernel
theorem dX0_refusal_37 : decode cX0_refusal 37 = .ok (.aload_n 0, 1) := by decide +kernel
theorem dX0_refusal_38 : decode cX0_refusal 38 = .ok (.iload 5, 2) := by decide +kernel
theorem dX0_refusal_40 : decode cX0_refusal 40 = .ok (.iload 6, 2) := by decide +kernel
theorem dX0_refusal_42 : decode cX0_refusal 42 = .ok (.invokevirtual 59, 3) := by decide +kernel
theorem dX0_refusal_45 : decode cX0_refusal 45 = .ok (.istore 7, 2) := by decide +kernel
theorem dX0_refusal_47 : decode cX0_refusal 47 = .ok (.iload 6, 2) := by decide +kernel
theorem dX0_refusal_49 : decode cX0_refusal 49 = .ok (.iload 7, 2) := by decide +kernel
theorem dX0_refusal_51 : decode cX0_refusal 51 = .ok (.iadd, 1) := by decide +kernel
theorem dX0_refusal_52 : decode cX0_refusal 52 = .ok (.istore 8, 2) := by decide +kernel
theorem dX0_refusal_54 : decode cX0_refusal 54 = .ok (.iload 8, 2) := by decide +kernel
theorem dX0_refusal_56 : decode cX0_refusal 56 = .ok (.ifCond .le 18, 3) := by decide +kernel
theorem dX0_refusal_59 : decode cX0_refusal 59 = .ok (.aload_n 0, 1) := by decide +kernel
theorem dX0_refusal_60 : decode cX0_refusal 60 = .ok (.iload 5, 2) := by decide +kernel
theorem dX0_refusal_62 : decode cX0_refusal 62 = .ok (.invokevirtual 63, 3) := by decide +kernel
theorem dX0_refusal_65 : decode cX0_refusal 65 = .ok (.iload 8, 2) := by decide +kernel
theorem dX0_refusal_67 : decode cX0_refusal 67 = .ok (.iadd, 1) := by decide +kernel
theorem dX0_refusal_68 : decode cX0_refusal 68 = .ok (.iload_n 2, 1) := by decide +kernel
theorem dX0_refusal_69 : decode cX0_refusal 69 = .ok (.if_icmp .le 5, 3) := by decide +kernel
theorem dX0_refusal_72 : decode cX0_refusal 72 = .ok (.iconst 2, 1) := by decide +kernel
theorem dX0_refusal_73 : decode cX0_refusal 73 = .ok (.ireturn, 1) := by decide +kernel
theorem dX0_refusal_74 : decode cX0_refusal 74 = .ok (.iload_n 3, 1) := by decide +kernel
theorem dX0_refusal_75 : decode cX0_refusal 75 = .ok (.bipush 10, 2) := by decide +kernel
theorem dX0_refusal_77 : decode cX0_refusal 77 = .ok (.idiv, 1) := by decide +kernel
theorem dX0_refusal_78 : decode cX0_refusal 78 = .ok (.istore_n 3, 1) := by decide +kernel
theorem dX0_refusal_79 : decode cX0_refusal 79 = .ok (.iload 7, 2) := by decide +kernel
theorem dX0_refusal_81 : decode cX0_refusal 81 = .ok (.istore 4, 2) := by decide +kernel
theorem dX0_refusal_83 : decode cX0_refusal 83 = .ok (.iinc 5 1, 3) := by decide +kernel
theorem dX0_refusal_86 : decode cX0_refusal 86 = .ok (.goto (-65), 3) := by decide +kernel
theorem dX0_refusal_89 : decode cX0_refusal 89 = .ok (.iconst 0, 1) := by decide +kernel
theorem dX0_refusal_90 : decode cX0_refusal 90 = .ok (.ireturn, 1) := by decide +kernel
theorem dX0_refusalOfPart_0 : decode cX0_refusalOfPart 0 = .ok (.aload_n 0, 1) := by decide +kernel
theorem dX0_refusalOfPart_1 : decode cX0_refusalOfPart 1 = .ok (.getfield 21, 3) := by decide +kernel
theorem dX0_refusalOfPart_4 : decode cX0_refusalOfPart 4 = .ok (.bipush 16, 2) := by decide +kernel
theorem dX0_refusalOfPart_6 : decode cX0_refusalOfPart 6 = .ok (.if_icmp .lt 7, 3) := by decide +kernel
theorem dX0_refusalOfPart_9 : decode cX0_refusalOfPart 9 = .ok (.iconst 3, 1) := by decide +kernel
theorem dX0_refusalOfPart_10 : decode cX0_refusalOfPart 10 = .ok (.goto 9, 3) := by decide +kernel
theorem dX0_refusalOfPart_13 : decode cX0_refusalOfPart 13 = .ok (.aload_n 0, 1) := by decide +kernel
theorem dX0_refusalOfPart_14 : decode cX0_refusalOfPart 14 = .ok (.iload_n 1, 1) := by decide +kernel
theorem dX0_refusalOfPart_15 : decode cX0_refusalOfPart 15 = .ok (.iload_n 2, 1) := by decide +kernel
theorem dX0_refusalOfPart_16 : decode cX0_refusalOfPart 16 = .ok (.invokevirtual 66, 3) := by decide +kernel
theorem dX0_refusalOfPart_19 : decode cX0_refusalOfPart 19 = .ok (.ireturn, 1) := by decide +kernel
theorem dX0_tieKnots_0 : decode cX0_tieKnots 0 = .ok (.iload_n 1, 1) := by decide +kernel
theorem dX0_tieKnots_1 : decode cX0_tieKnots 1 = .ok (.istore_n 2, 1) := by decide +kernel
theorem dX0_tieKnots_2 : decode cX0_tieKnots 2 = .ok (.iconst 0, 1) := by decide +kernel
theorem dX0_tieKnots_3 : decode cX0_tieKnots 3 = .ok (.istore_n 3, 1) := by decide +kernel
theorem dX0_tieKnots_4 : decode cX0_tieKnots 4 = .ok (.iconst 0, 1) := by decide +kernel
theorem dX0_tieKnots_5 : decode cX0_tieKnots 5 = .ok (.istore 4, 2) := by decide +kernel
theorem dX0_tieKnots_7 : decode cX0_tieKnots 7 = .ok (.iload 4, 2) := by decide +kernel
theorem dX0_tieKnots_9 : decode cX0_tieKnots 9 = .ok (.bipush 6, 2) := by decide +kernel
theorem dX0_tieKnots_11 : decode cX0_tieKnots 11 = .ok (.if_icmp .ge 59, 3) := by decide +kernel
theorem dX0_tieKnots_14 : decode cX0_tieKnots 14 = .ok (.iload_n 2, 1) := by decide +kernel
theorem dX0_tieKnots_15 : decode cX0_tieKnots 15 = .ok (.bipush 10, 2) := by decide +kernel
theorem dX0_tieKnots_17 : decode cX0_tieKnots 17 = .ok (.irem, 1) := by decide +kernel
theorem dX0_tieKnots_18 : decode cX0_tieKnots 18 = .ok (.iload_n 3, 1) := by decide +kernel
theorem dX0_tieKnots_19 : decode cX0_tieKnots 19 = .ok (.iadd, 1) := by decide +kernel
theorem dX0_tieKnots_20 : decode cX0_tieKnots 20 = .ok (.istore 5, 2) := by decide +kernel
theorem dX0_tieKnots_22 : decode cX0_tieKnots 22 = .ok (.aload_n 0, 1) := by decide +kernel
theorem dX0_tieKnots_23 : decode cX0_tieKnots 23 = .ok (.iload 4, 2) := by decide +kernel
theorem dX0_tieKnots_25 : decode cX0_tieKnots 25 = .ok (.iload 5, 2) := by decide +kernel
theorem dX0_tieKnots_27 : decode cX0_tieKnots 27 = .ok (.invokevirtual 59, 3) := by decide +kernel
theorem dX0_tieKnots_30 : decode cX0_tieKnots 30 = .ok (.istore 6, 2) := by decide +kernel
theorem dX0_tieKnots_32 : decode cX0_tieKnots 32 = .ok (.aload_n 0, 1) := by decide +kernel
theorem dX0_tieKnots_33 : decode cX0_tieKnots 33 = .ok (.getfield 9, 3) := by decide +kernel
theorem dX0_tieKnots_36 : decode cX0_tieKnots 36 = .ok (.iload 4, 2) := by decide +kernel
theorem dX0_tieKnots_38 : decode cX0_tieKnots 38 = .ok (.dup2, 1) := by decide +kernel
theorem dX0_tieKnots_39 : decode cX0_tieKnots 39 = .ok (.iaload, 1) := by decide +kernel
theorem dX0_tieKnots_40 : decode cX0_tieKnots 40 = .ok (.iload 5, 2) := by decide +kernel
theorem dX0_tieKnots_42 : decode cX0_tieKnots 42 = .ok (.iadd, 1) := by decide +kernel
theorem dX0_tieKnots_43 : decode cX0_tieKnots 43 = .ok (.iastore, 1) := by decide +kernel
theorem dX0_tieKnots_44 : decode cX0_tieKnots 44 = .ok (.aload_n 0, 1) := by decide +kernel
theorem dX0_tieKnots_45 : decode cX0_tieKnots 45 = .ok (.getfield 15, 3) := by decide +kernel
theorem dX0_tieKnots_48 : decode cX0_tieKnots 48 = .ok (.iload 4, 2) := by decide +kernel
theorem dX0_tieKnots_50 : decode cX0_tieKnots 50 = .ok (.dup2, 1) := by decide +kernel
theorem dX0_tieKnots_51 : decode cX0_tieKnots 51 = .ok (.iaload, 1) := by decide +kernel
theorem dX0_tieKnots_52 : decode cX0_tieKnots 52 = .ok (.iload 6, 2) := by decide +kernel
theorem dX0_tieKnots_54 : decode cX0_tieKnots 54 = .ok (.iadd, 1) := by decide +kernel
theorem dX0_tieKnots_55 : decode cX0_tieKnots 55 = .ok (.iastore, 1) := by decide +kernel
theorem dX0_tieKnots_56 : decode cX0_tieKnots 56 = .ok (.iload_n 2, 1) := by decide +kernel
theorem dX0_tieKnots_57 : decode cX0_tieKnots 57 = .ok (.bipush 10, 2) := by decide +kernel
theorem dX0_tieKnots_59 : decode cX0_tieKnots 59 = .ok (.idiv, 1) := by decide +kernel
theorem dX0_tieKnots_60 : decode cX0_tieKnots 60 = .ok (.istore_n 2, 1) := by decide +kernel
theorem dX0_tieKnots_61 : decode cX0_tieKnots 61 = .ok (.iload 6, 2) := by decide +kernel
theorem dX0_tieKnots_63 : decode cX0_tieKnots 63 = .ok (.istore_n 3, 1) := by decide +kernel
theorem dX0_tieKnots_64 : decode cX0_tieKnots 64 = .ok (.iinc 4 1, 3) := by decide +kernel
theorem dX0_tieKnots_67 : decode cX0_tieKnots 67 = .ok (.goto (-60), 3) := by decide +kernel
theorem dX0_tieKnots_70 : decode cX0_tieKnots 70 = .ok (.return_, 1) := by decide +kernel
theorem dX0_tieAsPart_0 : decode cX0_tieAsPart 0 = .ok (.aload_n 0, 1) := by decide +kernel
theorem dX0_tieAsPart_1 : decode cX0_tieAsPart 1 = .ok (.getfield 21, 3) := by decide +kernel
theorem dX0_tieAsPart_4 : decode cX0_tieAsPart 4 = .ok (.bipush 16, 2) := by decide +kernel
theorem dX0_tieAsPart_6 : decode cX0_tieAsPart 6 = .ok (.if_icmp .ge 28, 3) := by decide +kernel
theorem dX0_tieAsPart_9 : decode cX0_tieAsPart 9 = .ok (.aload_n 0, 1) := by decide +kernel
theorem dX0_tieAsPart_10 : decode cX0_tieAsPart 10 = .ok (.getfield 18, 3) := by decide +kernel
theorem dX0_tieAsPart_13 : decode cX0_tieAsPart 13 = .ok (.aload_n 0, 1) := by decide +kernel
theorem dX0_tieAsPart_14 : decode cX0_tieAsPart 14 = .ok (.getfield 21, 3) := by decide +kernel
theorem dX0_tieAsPart_17 : decode cX0_tieAsPart 17 = .ok (.iload_n 1, 1) := by decide +kernel
theorem dX0_tieAsPart_18 : decode cX0_tieAsPart 18 = .ok (.iastore, 1) := by decide +kernel
theorem dX0_tieAsPart_19 : decode cX0_tieAsPart 19 = .ok (.aload_n 0, 1) := by decide +kernel
theorem dX0_tieAsPart_20 : decode cX0_tieAsPart 20 = .ok (.dup, 1) := by decide +kernel
theorem dX0_tieAsPart_21 : decode cX0_tieAsPart 21 = .ok (.getfield 21, 3) := by decide +kernel
theorem dX0_tieAsPart_24 : decode cX0_tieAsPart 24 = .ok (.iconst 1, 1) := by decide +kernel
theorem dX0_tieAsPart_25 : decode cX0_tieAsPart 25 = .ok (.iadd, 1) := by decide +kernel
theorem dX0_tieAsPart_26 : decode cX0_tieAsPart 26 = .ok (.putfield 21, 3) := by decide +kernel
theorem dX0_tieAsPart_29 : decode cX0_tieAsPart 29 = .ok (.aload_n 0, 1) := by decide +kernel
theorem dX0_tieAsPart_30 : decode cX0_tieAsPart 30 = .ok (.iload_n 1, 1) := by decide +kernel
theorem dX0_tieAsPart_31 : decode cX0_tieAsPart 31 = .ok (.invokevirtual 69, 3) := by decide +kernel
theorem dX0_tieAsPart_34 : decode cX0_tieAsPart 34 = .ok (.return_, 1) := by decide +kernel
theorem dX0_loopsFor_0 : decode cX0_loopsFor 0 = .ok (.aload_n 0, 1) := by decide +kernel
theorem dX0_loopsFor_1 : decode cX0_loopsFor 1 = .ok (.iload_n 1, 1) := by decide +kernel
theorem dX0_loopsFor_2 : decode cX0_loopsFor 2 = .ok (.invokevirtual 37, 3) := by decide +kernel
theorem dX0_loopsFor_5 : decode cX0_loopsFor 5 = .ok (.iload_n 2, 1) := by decide +kernel
theorem dX0_loopsFor_6 : decode cX0_loopsFor 6 = .ok (.iadd, 1) := by decide +kernel
theorem dX0_loopsFor_7 : decode cX0_loopsFor 7 = .ok (.bipush 10, 2) := by decide +kernel
theorem dX0_loopsFor_9 : decode cX0_loopsFor 9 = .ok (.idiv, 1) := by decide +kernel
theorem dX0_loopsFor_10 : decode cX0_loopsFor 10 = .ok (.ireturn, 1) := by decide +kernel
theorem dX0_sumOf_0 : decode cX0_sumOf 0 = .ok (.iconst 0, 1) := by decide +kernel
theorem dX0_sumOf_1 : decode cX0_sumOf 1 = .ok (.istore_n 2, 1) := by decide +kernel
theorem dX0_sumOf_2 : decode cX0_sumOf 2 = .ok (.iconst 0, 1) := by decide +kernel
theorem dX0_sumOf_3 : decode cX0_sumOf 3 = .ok (.istore_n 3, 1) := by decide +kernel
theorem dX0_sumOf_4 : decode cX0_sumOf 4 = .ok (.iload_n 3, 1) := by decide +kernel
theorem dX0_sumOf_5 : decode cX0_sumOf 5 = .ok (.iload_n 1, 1) := by decide +kernel
theorem dX0_sumOf_6 : decode cX0_sumOf 6 = .ok (.if_icmp .ge 21, 3) := by decide +kernel
theorem dX0_sumOf_9 : decode cX0_sumOf 9 = .ok (.iload_n 3, 1) := by decide +kernel
theorem dX0_sumOf_10 : decode cX0_sumOf 10 = .ok (.aload_n 0, 1) := by decide +kernel
theorem dX0_sumOf_11 : decode cX0_sumOf 11 = .ok (.arraylength, 1) := by decide +kernel
theorem dX0_sumOf_12 : decode cX0_sumOf 12 = .ok (.if_icmp .ge 15, 3) := by decide +kernel
theorem dX0_sumOf_15 : decode cX0_sumOf 15 = .ok (.iload_n 2, 1) := by decide +kernel
theorem dX0_sumOf_16 : decode cX0_sumOf 16 = .ok (.aload_n 0, 1) := by decide +kernel
theorem dX0_sumOf_17 : decode cX0_sumOf 17 = .ok (.iload_n 3, 1) := by decide +kernel
theorem dX0_sumOf_18 : decode cX0_sumOf 18 = .ok (.iaload, 1) := by decide +kernel
theorem dX0_sumOf_19 : decode cX0_sumOf 19 = .ok (.iadd, 1) := by decide +kernel
theorem dX0_sumOf_20 : decode cX0_sumOf 20 = .ok (.istore_n 2, 1) := by decide +kernel
theorem dX0_sumOf_21 : decode cX0_sumOf 21 = .ok (.iinc 3 1, 3) := by decide +kernel
theorem dX0_sumOf_24 : decode cX0_sumOf 24 = .ok (.goto (-20), 3) := by decide +kernel
theorem dX0_sumOf_27 : decode cX0_sumOf 27 = .ok (.iload_n 2, 1) := by decide +kernel
theorem dX0_sumOf_28 : decode cX0_sumOf 28 = .ok (.ireturn, 1) := by decide +kernel
theorem dX1_init_0 : decode cX1_init 0 = .ok (.aload_n 0, 1) := by decide +kernel
theorem dX1_init_1 : decode cX1_init 1 = .ok (.invokespecial 3, 3) := by decide +kernel
theorem dX1_init_4 : decode cX1_init 4 = .ok (.aload_n 0, 1) := by decide +kernel
theorem dX1_init_5 : decode cX1_init 5 = .ok (.bipush 7, 2) := by decide +kernel
theorem dX1_init_7 : decode cX1_init 7 = .ok (.anewarray 9, 3) := by decide +kernel
theorem dX1_init_10 : decode cX1_init 10 = .ok (.putfield 11, 3) := by decide +kernel
theorem dX1_init_13 : decode cX1_init 13 = .ok (.aload_n 0, 1) := by decide +kernel
theorem dX1_init_14 : decode cX1_init 14 = .ok (.bipush 40, 2) := by decide +kernel
theorem dX1_init_16 : decode cX1_init 16 = .ok (.putfield 17, 3) := by decide +kernel
theorem dX1_init_19 : decode cX1_init 19 = .ok (.aload_n 0, 1) := by decide +kernel
theorem dX1_init_20 : decode cX1_init 20 = .ok (.iconst 0, 1) := by decide +kernel
theorem dX1_init_21 : decode cX1_init 21 = .ok (.putfield 21, 3) := by decide +kernel
theorem dX1_init_24 : decode cX1_init 24 = .ok (.aload_n 0, 1) := by decide +kernel
theorem dX1_init_25 : decode cX1_init 25 = .ok (.iconst 0, 1) := by decide +kernel
theorem dX1_init_26 : decode cX1_init 26 = .ok (.putfield 24, 3) := by decide +kernel
theorem dX1_init_29 : decode cX1_init 29 = .ok (.aload_n 0, 1) := by decide +kernel
theorem dX1_init_30 : decode cX1_init 30 = .ok (.iconst 0, 1) := by decide +kernel
theorem dX1_init_31 : decode cX1_init 31 = .ok (.putfield 27, 3) := by decide +kernel
theorem dX1_init_34 : decode cX1_init 34 = .ok (.aload_n 0, 1) := by decide +kernel
theorem dX1_init_35 : decode cX1_init 35 = .ok (.iconst 0, 1) := by decide +kernel
theorem dX1_init_36 : decode cX1_init 36 = .ok (.putfield 30, 3) := by decide +kernel
theorem dX1_init_39 : decode cX1_init 39 = .ok (.aload_n 0, 1) := by decide +kernel
theorem dX1_init_40 : decode cX1_init 40 = .ok (.iconst 0, 1) := by decide +kernel
theorem dX1_init_41 : decode cX1_init 41 = .ok (.putfield 33, 3) := by decide +kernel
theorem dX1_init_44 : decode cX1_init 44 = .ok (.iconst 0, 1) := by decide +kernel
theorem dX1_init_45 : decode cX1_init 45 = .ok (.istore_n 1, 1) := by decide +kernel
theorem dX1_init_46 : decode cX1_init 46 = .ok (.iload_n 1, 1) := by decide +kernel
theorem dX1_init_47 : decode cX1_init 47 = .ok (.bipush 7, 2) := by decide +kernel
theorem dX1_init_49 : decode cX1_init 49 = .ok (.if_icmp .ge 22, 3) := by decide +kernel
theorem dX1_init_52 : decode cX1_init 52 = .ok (.aload_n 0, 1) := by decide +kernel
theorem dX1_init_53 : decode cX1_init 53 = .ok (.getfield 11, 3) := by decide +kernel
theorem dX1_init_56 : decode cX1_init 56 = .ok (.iload_n 1, 1) := by decide +kernel
theorem dX1_init_57 : decode cX1_init 57 = .ok (.new 9, 3) := by decide +kernel
theorem dX1_init_60 : decode cX1_init 60 = .ok (.dup, 1) := by decide +kernel
theorem dX1_init_61 : decode cX1_init 61 = .ok (.invokespecial 36, 3) := by decide +kernel
theorem dX1_init_64 : decode cX1_init 64 = .ok (.aastore, 1) := by decide +kernel
theorem dX1_init_65 : decode cX1_init 65 = .ok (.iinc 1 1, 3) := by decide +kernel
theorem dX1_init_68 : decode cX1_init 68 = .ok (.goto (-22), 3) := by decide +kernel
theorem dX1_init_71 : decode cX1_init 71 = .ok (.return_, 1) := by decide +kernel
theorem dX1_copyFrom_0 : decode cX1_copyFrom 0 = .ok (.iconst 0, 1) := by decide +kernel
theorem dX1_copyFrom_1 : decode cX1_copyFrom 1 = .ok (.istore_n 2, 1) := by decide +kernel
theorem dX1_copyFrom_2 : decode cX1_copyFrom 2 = .ok (.iload_n 2, 1) := by decide +kernel
theorem dX1_copyFrom_3 : decode cX1_copyFrom 3 = .ok (.bipush 7, 2) := by decide +kernel
theorem dX1_copyFrom_5 : decode cX1_copyFrom 5 = .ok (.if_icmp .ge 24, 3) := by decide +kernel
theorem dX1_copyFrom_8 : decode cX1_copyFrom 8 = .ok (.aload_n 0, 1) := by decide +kernel
theorem dX1_copyFrom_9 : decode cX1_copyFrom 9 = .ok (.getfield 11, 3) := by decide +kernel
theorem dX1_copyFrom_12 : decode cX1_copyFrom 12 = .ok (.iload_n 2, 1) := by decide +kernel
theorem dX1_copyFrom_13 : decode cX1_copyFrom 13 = .ok (.aaload, 1) := by decide +kernel
theorem dX1_copyFrom_14 : decode cX1_copyFrom 14 = .ok (.aload_n 1, 1) := by decide +kernel
theorem dX1_copyFrom_15 : decode cX1_copyFrom 15 = .ok (.getfield 11, 3) := by decide +kernel
theorem dX1_copyFrom_18 : decode cX1_copyFrom 18 = .ok (.iload_n 2, 1) := by decide +kernel
theorem dX1_copyFrom_19 : decode cX1_copyFrom 19 = .ok (.aaload, 1) := by decide +kernel
theorem dX1_copyFrom_20 : decode cX1_copyFrom 20 = .ok (.invokevirtual 37, 3) := by decide +kernel
theorem dX1_copyFrom_23 : decode cX1_copyFrom 23 = .ok (.iinc 2 1, 3) := by decide +kernel
theorem dX1_copyFrom_26 : decode cX1_copyFrom 26 = .ok (.goto (-24), 3) := by decide +kernel
theorem dX1_copyFrom_29 : decode cX1_copyFrom 29 = .ok (.aload_n 0, 1) := by decide +kernel
theorem dX1_copyFrom_30 : decode cX1_copyFrom 30 = .ok (.aload_n 1, 1) := by decide +kernel
theorem dX1_copyFrom_31 : decode cX1_copyFrom 31 = .ok (.getfield 17, 3) := by decide +kernel
theorem dX1_copyFrom_34 : decode cX1_copyFrom 34 = .ok (.putfield 17, 3) := by decide +kernel
theorem dX1_copyFrom_37 : decode cX1_copyFrom 37 = .ok (.aload_n 0, 1) := by decide +kernel
theorem dX1_copyFrom_38 : decode cX1_copyFrom 38 = .ok (.aload_n 1, 1) := by decide +kernel
theorem dX1_copyFrom_39 : decode cX1_copyFrom 39 = .ok (.getfield 21, 3) := by decide +kernel
theorem dX1_copyFrom_42 : decode cX1_copyFrom 42 = .ok (.putfield 21, 3) := by decide +kernel
theorem dX1_copyFrom_45 : decode cX1_copyFrom 45 = .ok (.aload_n 0, 1) := by decide +kernel
theorem dX1_copyFrom_46 : decode cX1_copyFrom 46 = .ok (.aload_n 1, 1) := by decide +kernel
theorem dX1_copyFrom_47 : decode cX1_copyFrom 47 = .ok (.getfield 24, 3) := by decide +kernel
theorem dX1_copyFrom_50 : decode cX1_copyFrom 50 = .ok (.putfield 24, 3) := by decide +kernel
theorem dX1_copyFrom_53 : decode cX1_copyFrom 53 = .ok (.aload_n 0, 1) := by decide +kernel
theorem dX1_copyFrom_54 : decode cX1_copyFrom 54 = .ok (.aload_n 1, 1) := by decide +kernel
theorem dX1_copyFrom_55 : decode cX1_copyFrom 55 = .ok (.getfield 27, 3) := by decide +kernel
theorem dX1_copyFrom_58 : decode cX1_copyFrom 58 = .ok (.putfield 27, 3) := by decide +kernel
theorem dX1_copyFrom_61 : decode cX1_copyFrom 61 = .ok (.aload_n 0, 1) := by decide +kernel
theorem dX1_copyFrom_62 : decode cX1_copyFrom 62 = .ok (.aload_n 1, 1) := by decide +kernel
theorem dX1_copyFrom_63 : decode cX1_copyFrom 63 = .ok (.getfield 30, 3) := by decide +kernel
theorem dX1_copyFrom_66 : decode cX1_copyFrom 66 = .ok (.putfield 30, 3) := by decide +kernel
theorem dX1_copyFrom_69 : decode cX1_copyFrom 69 = .ok (.aload_n 0, 1) := by decide +kernel
theorem dX1_copyFrom_70 : decode cX1_copyFrom 70 = .ok (.aload_n 1, 1) := by decide +kernel
theorem dX1_copyFrom_71 : decode cX1_copyFrom 71 = .ok (.getfield 33, 3) := by decide +kernel
theorem dX1_copyFrom_74 : decode cX1_copyFrom 74 = .ok (.putfield 33, 3) := by decide +kernel
theorem dX1_copyFrom_77 : decode cX1_copyFrom 77 = .ok (.return_, 1) := by decide +kernel
theorem dX1_tiePart_0 : decode cX1_tiePart 0 = .ok (.aload_n 1, 1) := by decide +kernel
theorem dX1_tiePart_1 : decode cX1_tiePart 1 = .ok (.iload_n 2, 1) := by decide +kernel
theorem dX1_tiePart_2 : decode cX1_tiePart 2 = .ok (.aload_n 0, 1) := by decide +kernel
theorem dX1_tiePart_3 : decode cX1_tiePart 3 = .ok (.getfield 17, 3) := by decide +kernel
theorem dX1_tiePart_6 : decode cX1_tiePart 6 = .ok (.invokevirtual 41, 3) := by decide +kernel
theorem dX1_tiePart_9 : decode cX1_tiePart 9 = .ok (.istore_n 3, 1) := by decide +kernel
theorem dX1_tiePart_10 : decode cX1_tiePart 10 = .ok (.iload_n 3, 1) := by decide +kernel
theorem dX1_tiePart_11 : decode cX1_tiePart 11 = .ok (.ifCond .eq 15, 3) := by decide +kernel
theorem dX1_tiePart_14 : decode cX1_tiePart 14 = .ok (.aload_n 0, 1) := by decide +kernel
theorem dX1_tiePart_15 : decode cX1_tiePart 15 = .ok (.dup, 1) := by decide +kernel
theorem dX1_tiePart_16 : decode cX1_tiePart 16 = .ok (.getfield 33, 3) := by decide +kernel
theorem dX1_tiePart_19 : decode cX1_tiePart 19 = .ok (.iconst 1, 1) := by decide +kernel
theorem dX1_tiePart_20 : decode cX1_tiePart 20 = .ok (.iadd, 1) := by decide +kernel
theorem dX1_tiePart_21 : decode cX1_tiePart 21 = .ok (.putfield 33, 3) := by decide +kernel
theorem dX1_tiePart_24 : decode cX1_tiePart 24 = .ok (.iload_n 3, 1) := by decide +kernel
theorem dX1_tiePart_25 : decode cX1_tiePart 25 = .ok (.ireturn, 1) := by decide +kernel
theorem dX1_tiePart_26 : decode cX1_tiePart 26 = .ok (.aload_n 1, 1) := by decide +kernel
theorem dX1_tiePart_27 : decode cX1_tiePart 27 = .ok (.invokevirtual 45, 3) := by decide +kernel
theorem dX1_tiePart_30 : decode cX1_tiePart 30 = .ok (.istore 4, 2) := by decide +kernel
theorem dX1_tiePart_32 : decode cX1_tiePart 32 = .ok (.aload_n 1, 1) := by decide +kernel
theorem dX1_tiePart_33 : decode cX1_tiePart 33 = .ok (.invokevirtual 49, 3) := by decide +kernel
theorem dX1_tiePart_36 : decode cX1_tiePart 36 = .ok (.istore 5, 2) := by decide +kernel
theorem dX1_tiePart_38 : decode cX1_tiePart 38 = .ok (.aload_n 1, 1) := by decide +kernel
theorem dX1_tiePart_39 : decode cX1_tiePart 39 = .ok (.iload_n 2, 1) := by decide +kernel
theorem dX1_tiePart_40 : decode cX1_tiePart 40 = .ok (.invokevirtual 52, 3) := by decide +kernel
theorem dX1_tiePart_43 : decode cX1_tiePart 43 = .ok (.bipush 10, 2) := by decide +kernel
theorem dX1_tiePart_45 : decode cX1_tiePart 45 = .ok (.aload_n 0, 1) := by decide +kernel
theorem dX1_tiePart_46 : decode cX1_tiePart 46 = .ok (.aload_n 1, 1) := by decide +kernel
theorem dX1_tiePart_47 : decode cX1_tiePart 47 = .ok (.iload 4, 2) := by decide +kernel
theorem dX1_tiePart_49 : decode cX1_tiePart 49 = .ok (.iload 5, 2) := by decide +kernel
theorem dX1_tiePart_51 : decode cX1_tiePart 51 = .ok (.invokevirtual 56, 3) := by decide +kernel
theorem dX1_tiePart_54 : decode cX1_tiePart 54 = .ok (.iadd, 1) := by decide +kernel
theorem dX1_tiePart_55 : decode cX1_tiePart 55 = .ok (.ireturn, 1) := by decide +kernel
theorem dX1_tieCord_0 : decode cX1_tieCord 0 = .ok (.aload_n 1, 1) := by decide +kernel
theorem dX1_tieCord_1 : decode cX1_tieCord 1 = .ok (.invokevirtual 60, 3) := by decide +kernel
theorem dX1_tieCord_4 : decode cX1_tieCord 4 = .ok (.istore_n 3, 1) := by decide +kernel
theorem dX1_tieCord_5 : decode cX1_tieCord 5 = .ok (.iload_n 3, 1) := by decide +kernel
theorem dX1_tieCord_6 : decode cX1_tieCord 6 = .ok (.ifCond .ne 7, 3) := by decide +kernel
theorem dX1_tieCord_9 : decode cX1_tieCord 9 = .ok (.iconst 0, 1) := by decide +kernel
theorem dX1_tieCord_10 : decode cX1_tieCord 10 = .ok (.goto 9, 3) := by decide +kernel
theorem dX1_tieCord_13 : decode cX1_tieCord 13 = .ok (.aload_n 0, 1) := by decide +kernel
theorem dX1_tieCord_14 : decode cX1_tieCord 14 = .ok (.aload_n 2, 1) := by decide +kernel
theorem dX1_tieCord_15 : decode cX1_tieCord 15 = .ok (.iload_n 3, 1) := by decide +kernel
theorem dX1_tieCord_16 : decode cX1_tieCord 16 = .ok (.invokevirtual 63, 3) := by decide +kernel
theorem dX1_tieCord_19 : decode cX1_tieCord 19 = .ok (.ireturn, 1) := by decide +kernel
theorem dX1_tieLack_0 : decode cX1_tieLack 0 = .ok (.aload_n 1, 1) := by decide +kernel
theorem dX1_tieLack_1 : decode cX1_tieLack 1 = .ok (.invokevirtual 67, 3) := by decide +kernel
theorem dX1_tieLack_4 : decode cX1_tieLack 4 = .ok (.istore_n 2, 1) := by decide +kernel
theorem dX1_tieLack_5 : decode cX1_tieLack 5 = .ok (.iload_n 2, 1) := by decide +kernel
theorem dX1_tieLack_6 : decode cX1_tieLack 6 = .ok (.ifCond .ne 5, 3) := by decide +kernel
theorem dX1_tieLack_9 : decode cX1_tieLack 9 = .ok (.iconst 0, 1) := by decide +kernel
theorem dX1_tieLack_10 : decode cX1_tieLack 10 = .ok (.ireturn, 1) := by decide +kernel
theorem dX1_tieLack_11 : decode cX1_tieLack 11 = .ok (.aload_n 1, 1) := by decide +kernel
theorem dX1_tieLack_12 : decode cX1_tieLack 12 = .ok (.iload_n 2, 1) := by decide +kernel
theorem dX1_tieLack_13 : decode cX1_tieLack 13 = .ok (.aload_n 0, 1) := by decide +kernel
theorem dX1_tieLack_14 : decode cX1_tieLack 14 = .ok (.getfield 17, 3) := by decide +kernel
theorem dX1_tieLack_17 : decode cX1_tieLack 17 = .ok (.invokevirtual 70, 3) := by decide +kernel
theorem dX1_tieLack_20 : decode cX1_tieLack 20 = .ok (.istore_n 3, 1) := by decide +kernel
theorem dX1_tieLack_21 : decode cX1_tieLack 21 = .ok (.iload_n 3, 1) := by decide +kernel
theorem dX1_tieLack_22 : decode cX1_tieLack 22 = .ok (.ifCond .eq 16, 3) := by decide +kernel
theorem dX1_tieLack_25 : decode cX1_tieLack 25 = .ok (.aload_n 0, 1) := by decide +kernel
theorem dX1_tieLack_26 : decode cX1_tieLack 26 = .ok (.dup, 1) := by decide +kernel
theorem dX1_tieLack_27 : decode cX1_tieLack 27 = .ok (.getfield 33, 3) := by decide +kernel
theorem dX1_tieLack_30 : decode cX1_tieLack 30 = .ok (.iconst 1, 1) := by decide +kernel
theorem dX1_tieLack_31 : decode cX1_tieLack 31 = .ok (.iadd, 1) := by decide +kernel
theorem dX1_tieLack_32 : decode cX1_tieLack 32 = .ok (.putfield 33, 3) := by decide +kernel
theorem dX1_tieLack_35 : decode cX1_tieLack 35 = .ok (.iload_n 3, 1) := by decide +kernel
theorem dX1_tieLack_36 : decode cX1_tieLack 36 = .ok (.ineg, 1) := by decide +kernel
theorem dX1_tieLack_37 : decode cX1_tieLack 37 = .ok (.ireturn, 1) := by decide +kernel
theorem dX1_tieLack_38 : decode cX1_tieLack 38 = .ok (.aload_n 1, 1) := by decide +kernel
theorem dX1_tieLack_39 : decode cX1_tieLack 39 = .ok (.invokevirtual 45, 3) := by decide +kernel
theorem dX1_tieLack_42 : decode cX1_tieLack 42 = .ok (.istore 4, 2) := by decide +kernel
theorem dX1_tieLack_44 : decode cX1_tieLack 44 = .ok (.aload_n 1, 1) := by decide +kernel
theorem dX1_tieLack_45 : decode cX1_tieLack 45 = .ok (.invokevirtual 49, 3) := by decide +kernel
theorem dX1_tieLack_48 : decode cX1_tieLack 48 = .ok (.istore 5, 2) := by decide +kernel
theorem dX1_tieLack_50 : decode cX1_tieLack 50 = .ok (.aload_n 1, 1) := by decide +kernel
theorem dX1_tieLack_51 : decode cX1_tieLack 51 = .ok (.iload_n 2, 1) := by decide +kernel
theorem dX1_tieLack_52 : decode cX1_tieLack 52 = .ok (.invokevirtual 73, 3) := by decide +kernel
theorem dX1_tieLack_55 : decode cX1_tieLack 55 = .ok (.aload_n 0, 1) := by decide +kernel
theorem dX1_tieLack_56 : decode cX1_tieLack 56 = .ok (.aload_n 1, 1) := by decide +kernel
theorem dX1_tieLack_57 : decode cX1_tieLack 57 = .ok (.iload 4, 2) := by decide +kernel
theorem dX1_tieLack_59 : decode cX1_tieLack 59 = .ok (.iload 5, 2) := by decide +kernel
theorem dX1_tieLack_61 : decode cX1_tieLack 61 = .ok (.invokevirtual 56, 3) := by decide +kernel
theorem dX1_tieLack_64 : decode cX1_tieLack 64 = .ok (.pop, 1) := by decide +kernel
theorem dX1_tieLack_65 : decode cX1_tieLack 65 = .ok (.iload_n 2, 1) := by decide +kernel
theorem dX1_tieLack_66 : decode cX1_tieLack 66 = .ok (.ireturn, 1) := by decide +kernel
theorem dX1_countTied_0 : decode cX1_countTied 0 = .ok (.aload_n 1, 1) := by decide +kernel
theorem dX1_countTied_1 : decode cX1_countTied 1 = .ok (.invokevirtual 49, 3) := by decide +kernel
theorem dX1_countTied_4 : decode cX1_countTied 4 = .ok (.iload_n 3, 1) := by decide +kernel
theorem dX1_countTied_5 : decode cX1_countTied 5 = .ok (.isub, 1) := by decide +kernel
theorem dX1_countTied_6 : decode cX1_countTied 6 = .ok (.istore 4, 2) := by decide +kernel
theorem dX1_countTied_8 : decode cX1_countTied 8 = .ok (.aload_n 0, 1) := by decide +kernel
theorem dX1_countTied_9 : decode cX1_countTied 9 = .ok (.dup, 1) := by decide +kernel
theorem dX1_countTied_10 : decode cX1_countTied 10 = .ok (.getfield 21, 3) := by decide +kernel
theorem dX1_countTied_13 : decode cX1_countTied 13 = .ok (.aload_n 1, 1) := by decide +kernel
theorem dX1_countTied_14 : decode cX1_countTied 14 = .ok (.invokevirtual 45, 3) := by decide +kernel
theorem dX1_countTied_17 : decode cX1_countTied 17 = .ok (.iload_n 2, 1) := by decide +kernel
theorem dX1_countTied_18 : decode cX1_countTied 18 = .ok (.isub, 1) := by decide +kernel
theorem dX1_countTied_19 : decode cX1_countTied 19 = .ok (.iadd, 1) := by decide +kernel
theorem dX1_countTied_20 : decode cX1_countTied 20 = .ok (.putfield 21, 3) := by decide +kernel
theorem dX1_countTied_23 : decode cX1_countTied 23 = .ok (.aload_n 0, 1) := by decide +kernel
theorem dX1_countTied_24 : decode cX1_countTied 24 = .ok (.dup, 1) := by decide +kernel
theorem dX1_countTied_25 : decode cX1_countTied 25 = .ok (.getfield 24, 3) := by decide +kernel
theorem dX1_countTied_28 : decode cX1_countTied 28 = .ok (.iload 4, 2) := by decide +kernel
theorem dX1_countTied_30 : decode cX1_countTied 30 = .ok (.iadd, 1) := by decide +kernel
theorem dX1_countTied_31 : decode cX1_countTied 31 = .ok (.putfield 24, 3) := by decide +kernel
theorem dX1_countTied_34 : decode cX1_countTied 34 = .ok (.iload 4, 2) := by decide +kernel
theorem dX1_countTied_36 : decode cX1_countTied 36 = .ok (.ireturn, 1) := by decide +kernel
theorem dX1_loosen_0 : decode cX1_loosen 0 = .ok (.aload_n 1, 1) := by decide +kernel
theorem dX1_loosen_1 : decode cX1_loosen 1 = .ok (.iload_n 2, 1) := by decide +kernel
theorem dX1_loosen_2 : decode cX1_loosen 2 = .ok (.invokevirtual 76, 3) := by decide +kernel
theorem dX1_loosen_5 : decode cX1_loosen 5 = .ok (.ifCond .ne 15, 3) := by decide +kernel
theorem dX1_loosen_8 : decode cX1_loosen 8 = .ok (.aload_n 0, 1) := by decide +kernel
theorem dX1_loosen_9 : decode cX1_loosen 9 = .ok (.dup, 1) := by decide +kernel
theorem dX1_loosen_10 : decode cX1_loosen 10 = .ok (.getfield 33, 3) := by decide +kernel
theorem dX1_loosen_13 : decode cX1_loosen 13 = .ok (.iconst 1, 1) := by decide +kernel
theorem dX1_loosen_14 : decode cX1_loosen 14 = .ok (.iadd, 1) := by decide +kernel
theorem dX1_loosen_15 : decode cX1_loosen 15 = .ok (.putfield 33, 3) := by decide +kernel
theorem dX1_loosen_18 : decode cX1_loosen 18 = .ok (.iconst (-1), 1) := by decide +kernel
theorem dX1_loosen_19 : decode cX1_loosen 19 = .ok (.ireturn, 1) := by decide +kernel
theorem dX1_loosen_20 : decode cX1_loosen 20 = .ok (.aload_n 1, 1) := by decide +kernel
theorem dX1_loosen_21 : decode cX1_loosen 21 = .ok (.getfield 80, 3) := by decide +kernel
theorem dX1_loosen_24 : decode cX1_loosen 24 = .ok (.iload_n 2, 1) := by decide +kernel
theorem dX1_loosen_25 : decode cX1_loosen 25 = .ok (.dup2, 1) := by decide +kernel
theorem dX1_loosen_26 : decode cX1_loosen 26 = .ok (.iaload, 1) := by decide +kernel
theorem dX1_loosen_27 : decode cX1_loosen 27 = .ok (.iconst 1, 1) := by decide +kernel
theorem dX1_loosen_28 : decode cX1_loosen 28 = .ok (.isub, 1) := by decide +kernel
theorem dX1_loosen_29 : decode cX1_loosen 29 = .ok (.iastore, 1) := by decide +kernel
theorem dX1_loosen_30 : decode cX1_loosen 30 = .ok (.aload_n 1, 1) := by decide +kernel
theorem dX1_loosen_31 : decode cX1_loosen 31 = .ok (.dup, 1) := by decide +kernel
theorem dX1_loosen_32 : decode cX1_loosen 32 = .ok (.getfield 84, 3) := by decide +kernel
theorem dX1_loosen_35 : decode cX1_loosen 35 = .ok (.iconst 1, 1) := by decide +kernel
theorem dX1_loosen_36 : decode cX1_loosen 36 = .ok (.iadd, 1) := by decide +kernel
theorem dX1_loosen_37 : decode cX1_loosen 37 = .ok (.putfield 84, 3) := by decide +kernel
theorem dX1_loosen_40 : decode cX1_loosen 40 = .ok (.aload_n 0, 1) := by decide +kernel
theorem dX1_loosen_41 : decode cX1_loosen 41 = .ok (.dup, 1) := by decide +kernel
theorem dX1_loosen_42 : decode cX1_loosen 42 = .ok (.getfield 27, 3) := by decide +kernel
theorem dX1_loosen_45 : decode cX1_loosen 45 = .ok (.iconst 1, 1) := by decide +kernel
theorem dX1_loosen_46 : decode cX1_loosen 46 = .ok (.iadd, 1) := by decide +kernel
theorem dX1_loosen_47 : decode cX1_loosen 47 = .ok (.putfield 27, 3) := by decide +kernel
theorem dX1_loosen_50 : decode cX1_loosen 50 = .ok (.aload_n 1, 1) := by decide +kernel
theorem dX1_loosen_51 : decode cX1_loosen 51 = .ok (.iload_n 2, 1) := by decide +kernel
theorem dX1_loosen_52 : decode cX1_loosen 52 = .ok (.invokevirtual 76, 3) := by decide +kernel
theorem dX1_loosen_55 : decode cX1_loosen 55 = .ok (.ireturn, 1) := by decide +kernel
theorem dX1_replace_0 : decode cX1_replace 0 = .ok (.aload_n 1, 1) := by decide +kernel
theorem dX1_replace_1 : decode cX1_replace 1 = .ok (.invokevirtual 60, 3) := by decide +kernel
theorem dX1_replace_4 : decode cX1_replace 4 = .ok (.istore_n 2, 1) := by decide +kernel
theorem dX1_replace_5 : decode cX1_replace 5 = .ok (.aload_n 0, 1) := by decide +kernel
theorem dX1_replace_6 : decode cX1_replace 6 = .ok (.dup, 1) := by decide +kernel
theorem dX1_replace_7 : decode cX1_replace 7 = .ok (.getfield 30, 3) := by decide +kernel
theorem dX1_replace_10 : decode cX1_replace 10 = .ok (.aload_n 1, 1) := by decide +kernel
theorem dX1_replace_11 : decode cX1_replace 11 = .ok (.invokevirtual 85, 3) := by decide +kernel
theorem dX1_replace_14 : decode cX1_replace 14 = .ok (.iadd, 1) := by decide +kernel
theorem dX1_replace_15 : decode cX1_replace 15 = .ok (.putfield 30, 3) := by decide +kernel
theorem dX1_replace_18 : decode cX1_replace 18 = .ok (.aload_n 1, 1) := by decide +kernel
theorem dX1_replace_19 : decode cX1_replace 19 = .ok (.invokevirtual 88, 3) := by decide +kernel
theorem dX1_replace_22 : decode cX1_replace 22 = .ok (.iload_n 2, 1) := by decide +kernel
theorem dX1_replace_23 : decode cX1_replace 23 = .ok (.ireturn, 1) := by decide +kernel
theorem dX1_tellEach_0 : decode cX1_tellEach 0 = .ok (.iconst 0, 1) := by decide +kernel
theorem dX1_tellEach_1 : decode cX1_tellEach 1 = .ok (.istore_n 2, 1) := by decide +kernel
theorem dX1_tellEach_2 : decode cX1_tellEach 2 = .ok (.iload_n 2, 1) := by decide +kernel
theorem dX1_tellEach_3 : decode cX1_tellEach 3 = .ok (.bipush 7, 2) := by decide +kernel
theorem dX1_tellEach_5 : decode cX1_tellEach 5 = .ok (.if_icmp .ge 27, 3) := by decide +kernel
theorem dX1_tellEach_8 : decode cX1_tellEach 8 = .ok (.iload_n 2, 1) := by decide +kernel
theorem dX1_tellEach_9 : decode cX1_tellEach 9 = .ok (.aload_n 1, 1) := by decide +kernel
theorem dX1_tellEach_10 : decode cX1_tellEach 10 = .ok (.arraylength, 1) := by decide +kernel
theorem dX1_tellEach_11 : decode cX1_tellEach 11 = .ok (.if_icmp .ge 21, 3) := by decide +kernel
theorem dX1_tellEach_14 : decode cX1_tellEach 14 = .ok (.aload_n 1, 1) := by decide +kernel
theorem dX1_tellEach_15 : decode cX1_tellEach 15 = .ok (.iload_n 2, 1) := by decide +kernel
theorem dX1_tellEach_16 : decode cX1_tellEach 16 = .ok (.aload_n 0, 1) := by decide +kernel
theorem dX1_tellEach_17 : decode cX1_tellEach 17 = .ok (.getfield 11, 3) := by decide +kernel
theorem dX1_tellEach_20 : decode cX1_tellEach 20 = .ok (.iload_n 2, 1) := by decide +kernel
theorem dX1_tellEach_21 : decode cX1_tellEach 21 = .ok (.aaload, 1) := by decide +kernel
theorem dX1_tellEach_22 : decode cX1_tellEach 22 = .ok (.invokevirtual 60, 3) := by decide +kernel
theorem dX1_tellEach_25 : decode cX1_tellEach 25 = .ok (.iastore, 1) := by decide +kernel
theorem dX1_tellEach_26 : decode cX1_tellEach 26 = .ok (.iinc 2 1, 3) := by decide +kernel
theorem dX1_tellEach_29 : decode cX1_tellEach 29 = .ok (.goto (-27), 3) := by decide +kernel
theorem dX1_tellEach_32 : decode cX1_tellEach 32 = .ok (.return_, 1) := by decide +kernel
theorem dX1_told_0 : decode cX1_told 0 = .ok (.iconst 0, 1) := by decide +kernel
theorem dX1_told_1 : decode cX1_told 1 = .ok (.istore_n 1, 1) := by decide +kernel
theorem dX1_told_2 : decode cX1_told 2 = .ok (.aload_n 0, 1) := by decide +kernel
theorem dX1_told_3 : decode cX1_told 3 = .ok (.getfield 11, 3) := by decide +kernel
theorem dX1_told_6 : decode cX1_told 6 = .ok (.astore_n 2, 1) := by decide +kernel
theorem dX1_told_7 : decode cX1_told 7 = .ok (.aload_n 2, 1) := by decide +kernel
theorem dX1_told_8 : decode cX1_told 8 = .ok (.arraylength, 1) := by decide +kernel
theorem dX1_told_9 : decode cX1_told 9 = .ok (.istore_n 3, 1) := by decide +kernel
theorem dX1_told_10 : decode cX1_told 10 = .ok (.iconst 0, 1) := by decide +kernel
theorem dX1_told_11 : decode cX1_told 11 = .ok (.istore 4, 2) := by decide +kernel
theorem dX1_told_13 : decode cX1_told 13 = .ok (.iload 4, 2) := by decide +kernel
theorem dX1_told_15 : decode cX1_told 15 = .ok (.iload_n 3, 1) := by decide +kernel
theorem dX1_told_16 : decode cX1_told 16 = .ok (.if_icmp .ge 23, 3) := by decide +kernel
theorem dX1_told_19 : decode cX1_told 19 = .ok (.aload_n 2, 1) := by decide +kernel
theorem dX1_told_20 : decode cX1_told 20 = .ok (.iload 4, 2) := by decide +kernel
theorem dX1_told_22 : decode cX1_told 22 = .ok (.aaload, 1) := by decide +kernel
theorem dX1_told_23 : decode cX1_told 23 = .ok (.astore 5, 2) := by decide +kernel
theorem dX1_told_25 : decode cX1_told 25 = .ok (.iload_n 1, 1) := by decide +kernel
theorem dX1_told_26 : decode cX1_told 26 = .ok (.aload 5, 2) := by decide +kernel
theorem dX1_told_28 : decode cX1_told 28 = .ok (.invokevirtual 60, 3) := by decide +kernel
theorem dX1_told_31 : decode cX1_told 31 = .ok (.iadd, 1) := by decide +kernel
theorem dX1_told_32 : decode cX1_told 32 = .ok (.istore_n 1, 1) := by decide +kernel
theorem dX1_told_33 : decode cX1_told 33 = .ok (.iinc 4 1, 3) := by decide +kernel
theorem dX1_told_36 : decode cX1_told 36 = .ok (.goto (-23), 3) := by decide +kernel
theorem dX1_told_39 : decode cX1_told 39 = .ok (.iload_n 1, 1) := by decide +kernel
theorem dX1_told_40 : decode cX1_told 40 = .ok (.ireturn, 1) := by decide +kernel
theorem dX1_toldInHue_0 : decode cX1_toldInHue 0 = .ok (.iconst 0, 1) := by decide +kernel
theorem dX1_toldInHue_1 : decode cX1_toldInHue 1 = .ok (.istore_n 2, 1) := by decide +kernel
theorem dX1_toldInHue_2 : decode cX1_toldInHue 2 = .ok (.aload_n 0, 1) := by decide +kernel
theorem dX1_toldInHue_3 : decode cX1_toldInHue 3 = .ok (.getfield 11, 3) := by decide +kernel
theorem dX1_toldInHue_6 : decode cX1_toldInHue 6 = .ok (.astore_n 3, 1) := by decide +kernel
theorem dX1_toldInHue_7 : decode cX1_toldInHue 7 = .ok (.aload_n 3, 1) := by decide +kernel
theorem dX1_toldInHue_8 : decode cX1_toldInHue 8 = .ok (.arraylength, 1) := by decide +kernel
theorem dX1_toldInHue_9 : decode cX1_toldInHue 9 = .ok (.istore 4, 2) := by decide +kernel
theorem dX1_toldInHue_11 : decode cX1_toldInHue 11 = .ok (.iconst 0, 1) := by decide +kernel
theorem dX1_toldInHue_12 : decode cX1_toldInHue 12 = .ok (.istore 5, 2) := by decide +kernel
theorem dX1_toldInHue_14 : decode cX1_toldInHue 14 = .ok (.iload 5, 2) := by decide +kernel
theorem dX1_toldInHue_16 : decode cX1_toldInHue 16 = .ok (.iload 4, 2) := by decide +kernel
theorem dX1_toldInHue_18 : decode cX1_toldInHue 18 = .ok (.if_icmp .ge 32, 3) := by decide +kernel
theorem dX1_toldInHue_21 : decode cX1_toldInHue 21 = .ok (.aload_n 3, 1) := by decide +kernel
theorem dX1_toldInHue_22 : decode cX1_toldInHue 22 = .ok (.iload 5, 2) := by decide +kernel
theorem dX1_toldInHue_24 : decode cX1_toldInHue 24 = .ok (.aaload, 1) := by decide +kernel
theorem dX1_toldInHue_25 : decode cX1_toldInHue 25 = .ok (.astore 6, 2) := by decide +kernel
theorem dX1_toldInHue_27 : decode cX1_toldInHue 27 = .ok (.aload 6, 2) := by decide +kernel
theorem dX1_toldInHue_29 : decode cX1_toldInHue 29 = .ok (.getfield 91, 3) := by decide +kernel
theorem dX1_toldInHue_32 : decode cX1_toldInHue 32 = .ok (.iload_n 1, 1) := by decide +kernel
theorem dX1_toldInHue_33 : decode cX1_toldInHue 33 = .ok (.if_icmp .ne 11, 3) := by decide +kernel
theorem dX1_toldInHue_36 : decode cX1_toldInHue 36 = .ok (.iload_n 2, 1) := by decide +kernel
theorem dX1_toldInHue_37 : decode cX1_toldInHue 37 = .ok (.aload 6, 2) := by decide +kernel
theorem dX1_toldInHue_39 : decode cX1_toldInHue 39 = .ok (.invokevirtual 60, 3) := by decide +kernel
theorem dX1_toldInHue_42 : decode cX1_toldInHue 42 = .ok (.iadd, 1) := by decide +kernel
theorem dX1_toldInHue_43 : decode cX1_toldInHue 43 = .ok (.istore_n 2, 1) := by decide +kernel
theorem dX1_toldInHue_44 : decode cX1_toldInHue 44 = .ok (.iinc 5 1, 3) := by decide +kernel
theorem dX1_toldInHue_47 : decode cX1_toldInHue 47 = .ok (.goto (-33), 3) := by decide +kernel
theorem dX1_toldInHue_50 : decode cX1_toldInHue 50 = .ok (.iload_n 2, 1) := by decide +kernel
theorem dX1_toldInHue_51 : decode cX1_toldInHue 51 = .ok (.ireturn, 1) := by decide +kernel
theorem dX1_knots_0 : decode cX1_knots 0 = .ok (.iconst 0, 1) := by decide +kernel
theorem dX1_knots_1 : decode cX1_knots 1 = .ok (.istore_n 1, 1) := by decide +kernel
theorem dX1_knots_2 : decode cX1_knots 2 = .ok (.aload_n 0, 1) := by decide +kernel
theorem dX1_knots_3 : decode cX1_knots 3 = .ok (.getfield 11, 3) := by decide +kernel
theorem dX1_knots_6 : decode cX1_knots 6 = .ok (.astore_n 2, 1) := by decide +kernel
theorem dX1_knots_7 : decode cX1_knots 7 = .ok (.aload_n 2, 1) := by decide +kernel
theorem dX1_knots_8 : decode cX1_knots 8 = .ok (.arraylength, 1) := by decide +kernel
theorem dX1_knots_9 : decode cX1_knots 9 = .ok (.istore_n 3, 1) := by decide +kernel
theorem dX1_knots_10 : decode cX1_knots 10 = .ok (.iconst 0, 1) := by decide +kernel
theorem dX1_knots_11 : decode cX1_knots 11 = .ok (.istore 4, 2) := by decide +kernel
theorem dX1_knots_13 : decode cX1_knots 13 = .ok (.iload 4, 2) := by decide +kernel
theorem dX1_knots_15 : decode cX1_knots 15 = .ok (.iload_n 3, 1) := by decide +kernel
theorem dX1_knots_16 : decode cX1_knots 16 = .ok (.if_icmp .ge 23, 3) := by decide +kernel
theorem dX1_knots_19 : decode cX1_knots 19 = .ok (.aload_n 2, 1) := by decide +kernel
theorem dX1_knots_20 : decode cX1_knots 20 = .ok (.iload 4, 2) := by decide +kernel
theorem dX1_knots_22 : decode cX1_knots 22 = .ok (.aaload, 1) := by decide +kernel
theorem dX1_knots_23 : decode cX1_knots 23 = .ok (.astore 5, 2) := by decide +kernel
theorem dX1_knots_25 : decode cX1_knots 25 = .ok (.iload_n 1, 1) := by decide +kernel
theorem dX1_knots_26 : decode cX1_knots 26 = .ok (.aload 5, 2) := by decide +kernel
theorem dX1_knots_28 : decode cX1_knots 28 = .ok (.invokevirtual 45, 3) := by decide +kernel
theorem dX1_knots_31 : decode cX1_knots 31 = .ok (.iadd, 1) := by decide +kernel
theorem dX1_knots_32 : decode cX1_knots 32 = .ok (.istore_n 1, 1) := by decide +kernel
theorem dX1_knots_33 : decode cX1_knots 33 = .ok (.iinc 4 1, 3) := by decide +kernel
theorem dX1_knots_36 : decode cX1_knots 36 = .ok (.goto (-23), 3) := by decide +kernel
theorem dX1_knots_39 : decode cX1_knots 39 = .ok (.iload_n 1, 1) := by decide +kernel
theorem dX1_knots_40 : decode cX1_knots 40 = .ok (.ireturn, 1) := by decide +kernel
theorem dX1_loops_0 : decode cX1_loops 0 = .ok (.iconst 0, 1) := by decide +kernel
theorem dX1_loops_1 : decode cX1_loops 1 = .ok (.istore_n 1, 1) := by decide +kernel
theorem dX1_loops_2 : decode cX1_loops 2 = .ok (.aload_n 0, 1) := by decide +kernel
theorem dX1_loops_3 : decode cX1_loops 3 = .ok (.getfield 11, 3) := by decide +kernel
theorem dX1_loops_6 : decode cX1_loops 6 = .ok (.astore_n 2, 1) := by decide +kernel
theorem dX1_loops_7 : decode cX1_loops 7 = .ok (.aload_n 2, 1) := by decide +kernel
theorem dX1_loops_8 : decode cX1_loops 8 = .ok (.arraylength, 1) := by decide +kernel
theorem dX1_loops_9 : decode cX1_loops 9 = .ok (.istore_n 3, 1) := by decide +kernel
theorem dX1_loops_10 : decode cX1_loops 10 = .ok (.iconst 0, 1) := by decide +kernel
theorem dX1_loops_11 : decode cX1_loops 11 = .ok (.istore 4, 2) := by decide +kernel
theorem dX1_loops_13 : decode cX1_loops 13 = .ok (.iload 4, 2) := by decide +kernel
theorem dX1_loops_15 : decode cX1_loops 15 = .ok (.iload_n 3, 1) := by decide +kernel
theorem dX1_loops_16 : decode cX1_loops 16 = .ok (.if_icmp .ge 23, 3) := by decide +kernel
theorem dX1_loops_19 : decode cX1_loops 19 = .ok (.aload_n 2, 1) := by decide +kernel
theorem dX1_loops_20 : decode cX1_loops 20 = .ok (.iload 4, 2) := by decide +kernel
theorem dX1_loops_22 : decode cX1_loops 22 = .ok (.aaload, 1) := by decide +kernel
theorem dX1_loops_23 : decode cX1_loops 23 = .ok (.astore 5, 2) := by decide +kernel
theorem dX1_loops_25 : decode cX1_loops 25 = .ok (.iload_n 1, 1) := by decide +kernel
theorem dX1_loops_26 : decode cX1_loops 26 = .ok (.aload 5, 2) := by decide +kernel
theorem dX1_loops_28 : decode cX1_loops 28 = .ok (.invokevirtual 49, 3) := by decide +kernel
theorem dX1_loops_31 : decode cX1_loops 31 = .ok (.iadd, 1) := by decide +kernel
theorem dX1_loops_32 : decode cX1_loops 32 = .ok (.istore_n 1, 1) := by decide +kernel
theorem dX1_loops_33 : decode cX1_loops 33 = .ok (.iinc 4 1, 3) := by decide +kernel
theorem dX1_loops_36 : decode cX1_loops 36 = .ok (.goto (-23), 3) := by decide +kernel
theorem dX1_loops_39 : decode cX1_loops 39 = .ok (.iload_n 1, 1) := by decide +kernel
theorem dX1_loops_40 : decode cX1_loops 40 = .ok (.ireturn, 1) := by decide +kernel
theorem dX1_ties_0 : decode cX1_ties 0 = .ok (.aload_n 0, 1) := by decide +kernel
theorem dX1_ties_1 : decode cX1_ties 1 = .ok (.invokevirtual 94, 3) := by decide +kernel
theorem dX1_ties_4 : decode cX1_ties 4 = .ok (.aload_n 0, 1) := by decide +kernel
theorem dX1_ties_5 : decode cX1_ties 5 = .ok (.invokevirtual 96, 3) := by decide +kernel
theorem dX1_ties_8 : decode cX1_ties 8 = .ok (.iadd, 1) := by decide +kernel
theorem dX1_ties_9 : decode cX1_ties 9 = .ok (.ireturn, 1) := by decide +kernel
theorem dX1_lacking_0 : decode cX1_lacking 0 = .ok (.iconst 0, 1) := by decide +kernel
theorem dX1_lacking_1 : decode cX1_lacking 1 = .ok (.istore_n 1, 1) := by decide +kernel
theorem dX1_lacking_2 : decode cX1_lacking 2 = .ok (.aload_n 0, 1) := by decide +kernel
theorem dX1_lacking_3 : decode cX1_lacking 3 = .ok (.getfield 11, 3) := by decide +kernel
theorem dX1_lacking_6 : decode cX1_lacking 6 = .ok (.astore_n 2, 1) := by decide +kernel
theorem dX1_lacking_7 : decode cX1_lacking 7 = .ok (.aload_n 2, 1) := by decide +kernel
theorem dX1_lacking_8 : decode cX1_lacking 8 = .ok (.arraylength, 1) := by decide +kernel
theorem dX1_lacking_9 : decode cX1_lacking 9 = .ok (.istore_n 3, 1) := by decide +kernel
theorem dX1_lacking_10 : decode cX1_lacking 10 = .ok (.iconst 0, 1) := by decide +kernel
theorem dX1_lacking_11 : decode cX1_lacking 11 = .ok (.istore 4, 2) := by decide +kernel
theorem dX1_lacking_13 : decode cX1_lacking 13 = .ok (.iload 4, 2) := by decide +kernel
theorem dX1_lacking_15 : decode cX1_lacking 15 = .ok (.iload_n 3, 1) := by decide +kernel
theorem dX1_lacking_16 : decode cX1_lacking 16 = .ok (.if_icmp .ge 26, 3) := by decide +kernel
theorem dX1_lacking_19 : decode cX1_lacking 19 = .ok (.aload_n 2, 1) := by decide +kernel
theorem dX1_lacking_20 : decode cX1_lacking 20 = .ok (.iload 4, 2) := by decide +kernel
theorem dX1_lacking_22 : decode cX1_lacking 22 = .ok (.aaload, 1) := by decide +kernel
theorem dX1_lacking_23 : decode cX1_lacking 23 = .ok (.astore 5, 2) := by decide +kernel
theorem dX1_lacking_25 : decode cX1_lacking 25 = .ok (.aload 5, 2) := by decide +kernel
theorem dX1_lacking_27 : decode cX1_lacking 27 = .ok (.invokevirtual 67, 3) := by decide +kernel
theorem dX1_lacking_30 : decode cX1_lacking 30 = .ok (.ifCond .le 6, 3) := by decide +kernel
theorem dX1_lacking_33 : decode cX1_lacking 33 = .ok (.iinc 1 1, 3) := by decide +kernel
theorem dX1_lacking_36 : decode cX1_lacking 36 = .ok (.iinc 4 1, 3) := by decide +kernel
theorem dX1_lacking_39 : decode cX1_lacking 39 = .ok (.goto (-26), 3) := by decide +kernel
theorem dX1_lacking_42 : decode cX1_lacking 42 = .ok (.iload_n 1, 1) := by decide +kernel
theorem dX1_lacking_43 : decode cX1_lacking 43 = .ok (.ireturn, 1) := by decide +kernel
theorem dX1_fullestCord_0 : decode cX1_fullestCord 0 = .ok (.iconst 0, 1) := by decide +kernel
theorem dX1_fullestCord_1 : decode cX1_fullestCord 1 = .ok (.istore_n 1, 1) := by decide +kernel
theorem dX1_fullestCord_2 : decode cX1_fullestCord 2 = .ok (.iconst 1, 1) := by decide +kernel
theorem dX1_fullestCord_3 : decode cX1_fullestCord 3 = .ok (.istore_n 2, 1) := by decide +kernel
theorem dX1_fullestCord_4 : decode cX1_fullestCord 4 = .ok (.iload_n 2, 1) := by decide +kernel
theorem dX1_fullestCord_5 : decode cX1_fullestCord 5 = .ok (.bipush 7, 2) := by decide +kernel
theorem dX1_fullestCord_7 : decode cX1_fullestCord 7 = .ok (.if_icmp .ge 32, 3) := by decide +kernel
theorem dX1_fullestCord_10 : decode cX1_fullestCord 10 = .ok (.aload_n 0, 1) := by decide +kernel
theorem dX1_fullestCord_11 : decode cX1_fullestCord 11 = .ok (.getfield 11, 3) := by decide +kernel
theorem dX1_fullestCord_14 : decode cX1_fullestCord 14 = .ok (.iload_n 2, 1) := by decide +kernel
theorem dX1_fullestCord_15 : decode cX1_fullestCord 15 = .ok (.aaload, 1) := by decide +kernel
theorem dX1_fullestCord_16 : decode cX1_fullestCord 16 = .ok (.invokevirtual 85, 3) := by decide +kernel
theorem dX1_fullestCord_19 : decode cX1_fullestCord 19 = .ok (.aload_n 0, 1) := by decide +kernel
theorem dX1_fullestCord_20 : decode cX1_fullestCord 20 = .ok (.getfield 11, 3) := by decide +kernel
theorem dX1_fullestCord_23 : decode cX1_fullestCord 23 = .ok (.iload_n 1, 1) := by decide +kernel
theorem dX1_fullestCord_24 : decode cX1_fullestCord 24 = .ok (.aaload, 1) := by decide +kernel
theorem dX1_fullestCord_25 : decode cX1_fullestCord 25 = .ok (.invokevirtual 85, 3) := by decide +kernel
theorem dX1_fullestCord_28 : decode cX1_fullestCord 28 = .ok (.if_icmp .le 5, 3) := by decide +kernel
theorem dX1_fullestCord_31 : decode cX1_fullestCord 31 = .ok (.iload_n 2, 1) := by decide +kernel
theorem dX1_fullestCord_32 : decode cX1_fullestCord 32 = .ok (.istore_n 1, 1) := by decide +kernel
theorem dX1_fullestCord_33 : decode cX1_fullestCord 33 = .ok (.iinc 2 1, 3) := by decide +kernel
theorem dX1_fullestCord_36 : decode cX1_fullestCord 36 = .ok (.goto (-32), 3) := by decide +kernel
theorem dX1_fullestCord_39 : decode cX1_fullestCord 39 = .ok (.iload_n 1, 1) := by decide +kernel
theorem dX1_fullestCord_40 : decode cX1_fullestCord 40 = .ok (.ireturn, 1) := by decide +kernel
theorem dX2_init_0 : decode cX2_init 0 = .ok (.aload_n 0, 1) := by decide +kernel
theorem dX2_init_1 : decode cX2_init 1 = .ok (.invokespecial 3, 3) := by decide +kernel
theorem dX2_init_4 : decode cX2_init 4 = .ok (.aload_n 0, 1) := by decide +kernel
theorem dX2_init_5 : decode cX2_init 5 = .ok (.bipush 6, 2) := by decide +kernel
theorem dX2_init_7 : decode cX2_init 7 = .ok (.anewarray 9, 3) := by decide +kernel
theorem dX2_init_10 : decode cX2_init 10 = .ok (.putfield 11, 3) := by decide +kernel
theorem dX2_init_13 : decode cX2_init 13 = .ok (.aload_n 0, 1) := by decide +kernel
theorem dX2_init_14 : decode cX2_init 14 = .ok (.iconst 0, 1) := by decide +kernel
theorem dX2_init_15 : decode cX2_init 15 = .ok (.putfield 17, 3) := by decide +kernel
theorem dX2_init_18 : decode cX2_init 18 = .ok (.aload_n 0, 1) := by decide +kernel
theorem dX2_init_19 : decode cX2_init 19 = .ok (.iconst 0, 1) := by decide +kernel
theorem dX2_init_20 : decode cX2_init 20 = .ok (.putfield 21, 3) := by decide +kernel
theorem dX2_init_23 : decode cX2_init 23 = .ok (.iconst 0, 1) := by decide +kernel
theorem dX2_init_24 : decode cX2_init 24 = .ok (.istore_n 1, 1) := by decide +kernel
theorem dX2_init_25 : decode cX2_init 25 = .ok (.iload_n 1, 1) := by decide +kernel
theorem dX2_init_26 : decode cX2_init 26 = .ok (.bipush 6, 2) := by decide +kernel
theorem dX2_init_28 : decode cX2_init 28 = .ok (.if_icmp .ge 22, 3) := by decide +kernel
theorem dX2_init_31 : decode cX2_init 31 = .ok (.aload_n 0, 1) := by decide +kernel
theorem dX2_init_32 : decode cX2_init 32 = .ok (.getfield 11, 3) := by decide +kernel
theorem dX2_init_35 : decode cX2_init 35 = .ok (.iload_n 1, 1) := by decide +kernel
theorem dX2_init_36 : decode cX2_init 36 = .ok (.new 9, 3) := by decide +kernel
theorem dX2_init_39 : decode cX2_init 39 = .ok (.dup, 1) := by decide +kernel
theorem dX2_init_40 : decode cX2_init 40 = .ok (.invokespecial 24, 3) := by decide +kernel
theorem dX2_init_43 : decode cX2_init 43 = .ok (.aastore, 1) := by decide +kernel
theorem dX2_init_44 : decode cX2_init 44 = .ok (.iinc 1 1, 3) := by decide +kernel
theorem dX2_init_47 : decode cX2_init 47 = .ok (.goto (-22), 3) := by decide +kernel
theorem dX2_init_50 : decode cX2_init 50 = .ok (.return_, 1) := by decide +kernel
theorem dX2_save_0 : decode cX2_save 0 = .ok (.aload_n 0, 1) := by decide +kernel
theorem dX2_save_1 : decode cX2_save 1 = .ok (.getfield 11, 3) := by decide +kernel
theorem dX2_save_4 : decode cX2_save 4 = .ok (.aload_n 0, 1) := by decide +kernel
theorem dX2_save_5 : decode cX2_save 5 = .ok (.getfield 17, 3) := by decide +kernel
theorem dX2_save_8 : decode cX2_save 8 = .ok (.aaload, 1) := by decide +kernel
theorem dX2_save_9 : decode cX2_save 9 = .ok (.aload_n 1, 1) := by decide +kernel
theorem dX2_save_10 : decode cX2_save 10 = .ok (.invokevirtual 25, 3) := by decide +kernel
theorem dX2_save_13 : decode cX2_save 13 = .ok (.aload_n 0, 1) := by decide +kernel
theorem dX2_save_14 : decode cX2_save 14 = .ok (.aload_n 0, 1) := by decide +kernel
theorem dX2_save_15 : decode cX2_save 15 = .ok (.getfield 17, 3) := by decide +kernel
theorem dX2_save_18 : decode cX2_save 18 = .ok (.iconst 1, 1) := by decide +kernel
theorem dX2_save_19 : decode cX2_save 19 = .ok (.iadd, 1) := by decide +kernel
theorem dX2_save_20 : decode cX2_save 20 = .ok (.bipush 6, 2) := by decide +kernel
theorem dX2_save_22 : decode cX2_save 22 = .ok (.irem, 1) := by decide +kernel
theorem dX2_save_23 : decode cX2_save 23 = .ok (.putfield 17, 3) := by decide +kernel
theorem dX2_save_26 : decode cX2_save 26 = .ok (.aload_n 0, 1) := by decide +kernel
theorem dX2_save_27 : decode cX2_save 27 = .ok (.aload_n 0, 1) := by decide +kernel
theorem dX2_save_28 : decode cX2_save 28 = .ok (.getfield 21, 3) := by decide +kernel
theorem dX2_save_31 : decode cX2_save 31 = .ok (.iconst 1, 1) := by decide +kernel
theorem dX2_save_32 : decode cX2_save 32 = .ok (.iadd, 1) := by decide +kernel
theorem dX2_save_33 : decode cX2_save 33 = .ok (.bipush 6, 2) := by decide +kernel
theorem dX2_save_35 : decode cX2_save 35 = .ok (.invokestatic 29, 3) := by decide +kernel
theorem dX2_save_38 : decode cX2_save 38 = .ok (.putfield 21, 3) := by decide +kernel
theorem dX2_save_41 : decode cX2_save 41 = .ok (.return_, 1) := by decide +kernel
theorem dX2_restore_0 : decode cX2_restore 0 = .ok (.aload_n 0, 1) := by decide +kernel
theorem dX2_restore_1 : decode cX2_restore 1 = .ok (.getfield 21, 3) := by decide +kernel
theorem dX2_restore_4 : decode cX2_restore 4 = .ok (.ifCond .le 42, 3) := by decide +kernel
theorem dX2_restore_7 : decode cX2_restore 7 = .ok (.aload_n 0, 1) := by decide +kernel
theorem dX2_restore_8 : decode cX2_restore 8 = .ok (.dup, 1) := by decide +kernel
theorem dX2_restore_9 : decode cX2_restore 9 = .ok (.getfield 21, 3) := by decide +kernel
theorem dX2_restore_12 : decode cX2_restore 12 = .ok (.iconst 1, 1) := by decide +kernel
theorem dX2_restore_13 : decode cX2_restore 13 = .ok (.isub, 1) := by decide +kernel
theorem dX2_restore_14 : decode cX2_restore 14 = .ok (.putfield 21, 3) := by decide +kernel
theorem dX2_restore_17 : decode cX2_restore 17 = .ok (.aload_n 0, 1) := by decide +kernel
theorem dX2_restore_18 : decode cX2_restore 18 = .ok (.aload_n 0, 1) := by decide +kernel
theorem dX2_restore_19 : decode cX2_restore 19 = .ok (.getfield 17, 3) := by decide +kernel
theorem dX2_restore_22 : decode cX2_restore 22 = .ok (.bipush 6, 2) := by decide +kernel
theorem dX2_restore_24 : decode cX2_restore 24 = .ok (.iadd, 1) := by decide +kernel
theorem dX2_restore_25 : decode cX2_restore 25 = .ok (.iconst 1, 1) := by decide +kernel
theorem dX2_restore_26 : decode cX2_restore 26 = .ok (.isub, 1) := by decide +kernel
theorem dX2_restore_27 : decode cX2_restore 27 = .ok (.bipush 6, 2) := by decide +kernel
theorem dX2_restore_29 : decode cX2_restore 29 = .ok (.irem, 1) := by decide +kernel
theorem dX2_restore_30 : decode cX2_restore 30 = .ok (.putfield 17, 3) := by decide +kernel
theorem dX2_restore_33 : decode cX2_restore 33 = .ok (.aload_n 1, 1) := by decide +kernel
theorem dX2_restore_34 : decode cX2_restore 34 = .ok (.aload_n 0, 1) := by decide +kernel
theorem dX2_restore_35 : decode cX2_restore 35 = .ok (.getfield 11, 3) := by decide +kernel
theorem dX2_restore_38 : decode cX2_restore 38 = .ok (.aload_n 0, 1) := by decide +kernel
theorem dX2_restore_39 : decode cX2_restore 39 = .ok (.getfield 17, 3) := by decide +kernel
theorem dX2_restore_42 : decode cX2_restore 42 = .ok (.aaload, 1) := by decide +kernel
theorem dX2_restore_43 : decode cX2_restore 43 = .ok (.invokevirtual 25, 3) := by decide +kernel
theorem dX2_restore_46 : decode cX2_restore 46 = .ok (.return_, 1) := by decide +kernel
theorem dX3_init_0 : decode cX3_init 0 = .ok (.aload_n 0, 1) := by decide +kernel
theorem dX3_init_1 : decode cX3_init 1 = .ok (.invokespecial 3, 3) := by decide +kernel
theorem dX3_init_4 : decode cX3_init 4 = .ok (.aload_n 0, 1) := by decide +kernel
theorem dX3_init_5 : decode cX3_init 5 = .ok (.iconst 0, 1) := by decide +kernel
theorem dX3_init_6 : decode cX3_init 6 = .ok (.putfield 11, 3) := by decide +kernel
theorem dX3_init_9 : decode cX3_init 9 = .ok (.aload_n 0, 1) := by decide +kernel
theorem dX3_init_10 : decode cX3_init 10 = .ok (.iconst 0, 1) := by decide +kernel
theorem dX3_init_11 : decode cX3_init 11 = .ok (.putfield 15, 3) := by decide +kernel
theorem dX3_init_14 : decode cX3_init 14 = .ok (.aload_n 0, 1) := by decide +kernel
theorem dX3_init_15 : decode cX3_init 15 = .ok (.iconst 0, 1) := by decide +kernel
theorem dX3_init_16 : decode cX3_init 16 = .ok (.putfield 18, 3) := by decide +kernel
theorem dX3_init_19 : decode cX3_init 19 = .ok (.aload_n 0, 1) := by decide +kernel
theorem dX3_init_20 : decode cX3_init 20 = .ok (.bipush 43, 2) := by decide +kernel
theorem dX3_init_22 : decode cX3_init 22 = .ok (.putfield 21, 3) := by decide +kernel
theorem dX3_init_25 : decode cX3_init 25 = .ok (.aload_n 0, 1) := by decide +kernel
theorem dX3_init_26 : decode cX3_init 26 = .ok (.iconst 0, 1) := by decide +kernel
theorem dX3_init_27 : decode cX3_init 27 = .ok (.putfield 25, 3) := by decide +kernel
theorem dX3_init_30 : decode cX3_init 30 = .ok (.return_, 1) := by decide +kernel
theorem dX3_begin_0 : decode cX3_begin 0 = .ok (.aload_n 0, 1) := by decide +kernel
theorem dX3_begin_1 : decode cX3_begin 1 = .ok (.iconst 0, 1) := by decide +kernel
theorem dX3_begin_2 : decode cX3_begin 2 = .ok (.putfield 11, 3) := by decide +kernel
theorem dX3_begin_5 : decode cX3_begin 5 = .ok (.return_, 1) := by decide +kernel
theorem dX3_hasWholeOrder_0 : decode cX3_hasWholeOrder 0 = .ok (.aload_n 0, 1) := by decide +kernel
theorem dX3_hasWholeOrder_1 : decode cX3_hasWholeOrder 1 = .ok (.getfield 11, 3) := by decide +kernel
theorem dX3_hasWholeOrder_4 : decode cX3_hasWholeOrder 4 = .ok (.iconst 3, 1) := by decide +kernel
theorem dX3_hasWholeOrder_5 : decode cX3_hasWholeOrder 5 = .ok (.if_icmp .ne 7, 3) := by decide +kernel
theorem dX3_hasWholeOrder_8 : decode cX3_hasWholeOrder 8 = .ok (.iconst 1, 1) := by decide +kernel
theorem dX3_hasWholeOrder_9 : decode cX3_hasWholeOrder 9 = .ok (.goto 4, 3) := by decide +kernel
theorem dX3_hasWholeOrder_12 : decode cX3_hasWholeOrder 12 = .ok (.iconst 0, 1) := by decide +kernel
theorem dX3_hasWholeOrder_13 : decode cX3_hasWholeOrder 13 = .ok (.ireturn, 1) := by decide +kernel
theorem dX3_takes_0 : decode cX3_takes 0 = .ok (.aload_n 0, 1) := by decide +kernel
theorem dX3_takes_1 : decode cX3_takes 1 = .ok (.getfield 11, 3) := by decide +kernel
theorem dX3_takes_4 : decode cX3_takes 4 = .ok (.tableswitch 52 0 2 #[28, 37, 43], 28) := by decide +kernel
theorem dX3_takes_32 : decode cX3_takes 32 = .ok (.aload_n 0, 1) := by decide +kernel
theorem dX3_takes_33 : decode cX3_takes 33 = .ok (.iload_n 1, 1) := by decide +kernel
theorem dX3_takes_34 : decode cX3_takes 34 = .ok (.bipush 48, 2) := by decide +kernel
theorem dX3_takes_36 : decode cX3_takes 36 = .ok (.isub, 1) := by decide +kernel
theorem dX3_takes_37 : decode cX3_takes 37 = .ok (.invokevirtual 28, 3) := by decide +kernel
theorem dX3_takes_40 : decode cX3_takes 40 = .ok (.ireturn, 1) := by decide +kernel
theorem dX3_takes_41 : decode cX3_takes 41 = .ok (.aload_n 0, 1) := by decide +kernel
theorem dX3_takes_42 : decode cX3_takes 42 = .ok (.iload_n 1, 1) := by decide +kernel
theorem dX3_takes_43 : decode cX3_takes 43 = .ok (.invokevirtual 32, 3) := by decide +kernel
theorem dX3_takes_46 : decode cX3_takes 46 = .ok (.ireturn, 1) := by decide +kernel
theorem dX3_takes_47 : decode cX3_takes 47 = .ok (.aload_n 0, 1) := by decide +kernel
theorem dX3_takes_48 : decode cX3_takes 48 = .ok (.iload_n 1, 1) := by decide +kernel
theorem dX3_takes_49 : decode cX3_takes 49 = .ok (.bipush 48, 2) := by decide +kernel
theorem dX3_takes_51 : decode cX3_takes 51 = .ok (.isub, 1) := by decide +kernel
theorem dX3_takes_52 : decode cX3_takes 52 = .ok (.invokevirtual 36, 3) := by decide +kernel
theorem dX3_takes_55 : decode cX3_takes 55 = .ok (.ireturn, 1) := by decide +kernel
theorem dX3_takes_56 : decode cX3_takes 56 = .ok (.iload_n 1, 1) := by decide +kernel
theorem dX3_takes_57 : decode cX3_takes 57 = .ok (.bipush 59, 2) := by decide +kernel
theorem dX3_takes_59 : decode cX3_takes 59 = .ok (.if_icmp .ne 10, 3) := by decide +kernel
theorem dX3_takes_62 : decode cX3_takes 62 = .ok (.aload_n 0, 1) := by decide +kernel
theorem dX3_takes_63 : decode cX3_takes 63 = .ok (.invokevirtual 39, 3) := by decide +kernel
theorem dX3_takes_66 : decode cX3_takes 66 = .ok (.goto 11, 3) := by decide +kernel
theorem dX3_takes_69 : decode cX3_takes 69 = .ok (.aload_n 0, 1) := by decide +kernel
theorem dX3_takes_70 : decode cX3_takes 70 = .ok (.iload_n 1, 1) := by decide +kernel
theorem dX3_takes_71 : decode cX3_takes 71 = .ok (.bipush 48, 2) := by decide +kernel
theorem dX3_takes_73 : decode cX3_takes 73 = .ok (.isub, 1) := by decide +kernel
theorem dX3_takes_74 : decode cX3_takes 74 = .ok (.invokevirtual 43, 3) := by decide +kernel
theorem dX3_takes_77 : decode cX3_takes 77 = .ok (.ireturn, 1) := by decide +kernel
theorem dX3_takesCord_0 : decode cX3_takesCord 0 = .ok (.iload_n 1, 1) := by decide +kernel
theorem dX3_takesCord_1 : decode cX3_takesCord 1 = .ok (.ifCond .lt 9, 3) := by decide +kernel
theorem dX3_takesCord_4 : decode cX3_takesCord 4 = .ok (.iload_n 1, 1) := by decide +kernel
theorem dX3_takesCord_5 : decode cX3_takesCord 5 = .ok (.bipush 7, 2) := by decide +kernel
theorem dX3_takesCord_7 : decode cX3_takesCord 7 = .ok (.if_icmp .lt 5, 3) := by decide +kernel
theorem dX3_takesCord_10 : decode cX3_takesCord 10 = .ok (.iconst 0, 1) := by decide +kernel
theorem dX3_takesCord_11 : decode cX3_takesCord 11 = .ok (.ireturn, 1) := by decide +kernel
theorem dX3_takesCord_12 : decode cX3_takesCord 12 = .ok (.aload_n 0, 1) := by decide +kernel
theorem dX3_takesCord_13 : decode cX3_takesCord 13 = .ok (.iload_n 1, 1) := by decide +kernel
theorem dX3_takesCord_14 : decode cX3_takesCord 14 = .ok (.putfield 18, 3) := by decide +kernel
theorem dX3_takesCord_17 : decode cX3_takesCord 17 = .ok (.aload_n 0, 1) := by decide +kernel
theorem dX3_takesCord_18 : decode cX3_takesCord 18 = .ok (.iconst 1, 1) := by decide +kernel
theorem dX3_takesCord_19 : decode cX3_takesCord 19 = .ok (.putfield 11, 3) := by decide +kernel
theorem dX3_takesCord_22 : decode cX3_takesCord 22 = .ok (.iconst 1, 1) := by decide +kernel
theorem dX3_takesCord_23 : decode cX3_takesCord 23 = .ok (.ireturn, 1) := by decide +kernel
theorem dX3_takesKind_0 : decode cX3_takesKind 0 = .ok (.iload_n 1, 1) := by decide +kernel
theorem dX3_takesKind_1 : decode cX3_takesKind 1 = .ok (.bipush 43, 2) := by decide +kernel
theorem dX3_takesKind_3 : decode cX3_takesKind 3 = .ok (.if_icmp .eq 17, 3) := by decide +kernel
theorem dX3_takesKind_6 : decode cX3_takesKind 6 = .ok (.iload_n 1, 1) := by decide +kernel
theorem dX3_takesKind_7 : decode cX3_takesKind 7 = .ok (.bipush 62, 2) := by decide +kernel
theorem dX3_takesKind_9 : decode cX3_takesKind 9 = .ok (.if_icmp .eq 11, 3) := by decide +kernel
theorem dX3_takesKind_12 : decode cX3_takesKind 12 = .ok (.iload_n 1, 1) := by decide +kernel
theorem dX3_takesKind_13 : decode cX3_takesKind 13 = .ok (.bipush 126, 2) := by decide +kernel
theorem dX3_takesKind_15 : decode cX3_takesKind 15 = .ok (.if_icmp .eq 5, 3) := by decide +kernel
theorem dX3_takesKind_18 : decode cX3_takesKind 18 = .ok (.iconst 0, 1) := by decide +kernel
theorem dX3_takesKind_19 : decode cX3_takesKind 19 = .ok (.ireturn, 1) := by decide +kernel
theorem dX3_takesKind_20 : decode cX3_takesKind 20 = .ok (.aload_n 0, 1) := by decide +kernel
theorem dX3_takesKind_21 : decode cX3_takesKind 21 = .ok (.iload_n 1, 1) := by decide +kernel
theorem dX3_takesKind_22 : decode cX3_takesKind 22 = .ok (.putfield 21, 3) := by decide +kernel
theorem dX3_takesKind_25 : decode cX3_takesKind 25 = .ok (.aload_n 0, 1) := by decide +kernel
theorem dX3_takesKind_26 : decode cX3_takesKind 26 = .ok (.iconst 2, 1) := by decide +kernel
theorem dX3_takesKind_27 : decode cX3_takesKind 27 = .ok (.putfield 11, 3) := by decide +kernel
theorem dX3_takesKind_30 : decode cX3_takesKind 30 = .ok (.iconst 1, 1) := by decide +kernel
theorem dX3_takesKind_31 : decode cX3_takesKind 31 = .ok (.ireturn, 1) := by decide +kernel
theorem dX3_takesValue_0 : decode cX3_takesValue 0 = .ok (.aload_n 0, 1) := by decide +kernel
theorem dX3_takesValue_1 : decode cX3_takesValue 1 = .ok (.iload_n 1, 1) := by decide +kernel
theorem dX3_takesValue_2 : decode cX3_takesValue 2 = .ok (.invokevirtual 46, 3) := by decide +kernel
theorem dX3_takesValue_5 : decode cX3_takesValue 5 = .ok (.ifCond .ne 5, 3) := by decide +kernel
theorem dX3_takesValue_8 : decode cX3_takesValue 8 = .ok (.iconst 0, 1) := by decide +kernel
theorem dX3_takesValue_9 : decode cX3_takesValue 9 = .ok (.ireturn, 1) := by decide +kernel
theorem dX3_takesValue_10 : decode cX3_takesValue 10 = .ok (.aload_n 0, 1) := by decide +kernel
theorem dX3_takesValue_11 : decode cX3_takesValue 11 = .ok (.iload_n 1, 1) := by decide +kernel
theorem dX3_takesValue_12 : decode cX3_takesValue 12 = .ok (.putfield 25, 3) := by decide +kernel
theorem dX3_takesValue_15 : decode cX3_takesValue 15 = .ok (.aload_n 0, 1) := by decide +kernel
theorem dX3_takesValue_16 : decode cX3_takesValue 16 = .ok (.iconst 1, 1) := by decide +kernel
theorem dX3_takesValue_17 : decode cX3_takesValue 17 = .ok (.putfield 15, 3) := by decide +kernel
theorem dX3_takesValue_20 : decode cX3_takesValue 20 = .ok (.aload_n 0, 1) := by decide +kernel
theorem dX3_takesValue_21 : decode cX3_takesValue 21 = .ok (.iconst 3, 1) := by decide +kernel
theorem dX3_takesValue_22 : decode cX3_takesValue 22 = .ok (.putfield 11, 3) := by decide +kernel
theorem dX3_takesValue_25 : decode cX3_takesValue 25 = .ok (.iconst 1, 1) := by decide +kernel
theorem dX3_takesValue_26 : decode cX3_takesValue 26 = .ok (.ireturn, 1) := by decide +kernel
theorem dX3_mayBeginValue_0 : decode cX3_mayBeginValue 0 = .ok (.aload_n 0, 1) := by decide +kernel
theorem dX3_mayBeginValue_1 : decode cX3_mayBeginValue 1 = .ok (.getfield 21, 3) := by decide +kernel
theorem dX3_mayBeginValue_4 : decode cX3_mayBeginValue 4 = .ok (.bipush 43, 2) := by decide +kernel
theorem dX3_mayBeginValue_6 : decode cX3_mayBeginValue 6 = .ok (.if_icmp .ne 20, 3) := by decide +kernel
theorem dX3_mayBeginValue_9 : decode cX3_mayBeginValue 9 = .ok (.iload_n 1, 1) := by decide +kernel
theorem dX3_mayBeginValue_10 : decode cX3_mayBeginValue 10 = .ok (.iconst 1, 1) := by decide +kernel
theorem dX3_mayBeginValue_11 : decode cX3_mayBeginValue 11 = .ok (.if_icmp .lt 13, 3) := by decide +kernel
theorem dX3_mayBeginValue_14 : decode cX3_mayBeginValue 14 = .ok (.iload_n 1, 1) := by decide +kernel
theorem dX3_mayBeginValue_15 : decode cX3_mayBeginValue 15 = .ok (.bipush 9, 2) := by decide +kernel
theorem dX3_mayBeginValue_17 : decode cX3_mayBeginValue 17 = .ok (.if_icmp .gt 7, 3) := by decide +kernel
theorem dX3_mayBeginValue_20 : decode cX3_mayBeginValue 20 = .ok (.iconst 1, 1) := by decide +kernel
theorem dX3_mayBeginValue_21 : decode cX3_mayBeginValue 21 = .ok (.goto 4, 3) := by decide +kernel
theorem dX3_mayBeginValue_24 : decode cX3_mayBeginValue 24 = .ok (.iconst 0, 1) := by decide +kernel
theorem dX3_mayBeginValue_25 : decode cX3_mayBeginValue 25 = .ok (.ireturn, 1) := by decide +kernel
theorem dX3_mayBeginValue_26 : decode cX3_mayBeginValue 26 = .ok (.aload_n 0, 1) := by decide +kernel
theorem dX3_mayBeginValue_27 : decode cX3_mayBeginValue 27 = .ok (.getfield 21, 3) := by decide +kernel
theorem dX3_mayBeginValue_30 : decode cX3_mayBeginValue 30 = .ok (.bipush 62, 2) := by decide +kernel
theorem dX3_mayBeginValue_32 : decode cX3_mayBeginValue 32 = .ok (.if_icmp .ne 27, 3) := by decide +kernel
theorem dX3_mayBeginValue_35 : decode cX3_mayBeginValue 35 = .ok (.iload_n 1, 1) := by decide +kernel
theorem dX3_mayBeginValue_36 : decode cX3_mayBeginValue 36 = .ok (.ifCond .lt 21, 3) := by decide +kernel
theorem dX3_mayBeginValue_39 : decode cX3_mayBeginValue 39 = .ok (.iload_n 1, 1) := by decide +kernel
theorem dX3_mayBeginValue_40 : decode cX3_mayBeginValue 40 = .ok (.bipush 7, 2) := by decide +kernel
theorem dX3_mayBeginValue_42 : decode cX3_mayBeginValue 42 = .ok (.if_icmp .ge 15, 3) := by decide +kernel
theorem dX3_mayBeginValue_45 : decode cX3_mayBeginValue 45 = .ok (.iload_n 1, 1) := by decide +kernel
theorem dX3_mayBeginValue_46 : decode cX3_mayBeginValue 46 = .ok (.aload_n 0, 1) := by decide +kernel
theorem dX3_mayBeginValue_47 : decode cX3_mayBeginValue 47 = .ok (.getfield 18, 3) := by decide +kernel
theorem dX3_mayBeginValue_50 : decode cX3_mayBeginValue 50 = .ok (.if_icmp .eq 7, 3) := by decide +kernel
theorem dX3_mayBeginValue_53 : decode cX3_mayBeginValue 53 = .ok (.iconst 1, 1) := by decide +kernel
theorem dX3_mayBeginValue_54 : decode cX3_mayBeginValue 54 = .ok (.goto 4, 3) := by decide +kernel
theorem dX3_mayBeginValue_57 : decode cX3_mayBeginValue 57 = .ok (.iconst 0, 1) := by decide +kernel
theorem dX3_mayBeginValue_58 : decode cX3_mayBeginValue 58 = .ok (.ireturn, 1) := by decide +kernel
theorem dX3_mayBeginValue_59 : decode cX3_mayBeginValue 59 = .ok (.iload_n 1, 1) := by decide +kernel
theorem dX3_mayBeginValue_60 : decode cX3_mayBeginValue 60 = .ok (.ifCond .lt 13, 3) := by decide +kernel
theorem dX3_mayBeginValue_63 : decode cX3_mayBeginValue 63 = .ok (.iload_n 1, 1) := by decide +kernel
theorem dX3_mayBeginValue_64 : decode cX3_mayBeginValue 64 = .ok (.bipush 6, 2) := by decide +kernel
theorem dX3_mayBeginValue_66 : decode cX3_mayBeginValue 66 = .ok (.if_icmp .ge 7, 3) := by decide +kernel
theorem dX3_mayBeginValue_69 : decode cX3_mayBeginValue 69 = .ok (.iconst 1, 1) := by decide +kernel
theorem dX3_mayBeginValue_70 : decode cX3_mayBeginValue 70 = .ok (.goto 4, 3) := by decide +kernel
theorem dX3_mayBeginValue_73 : decode cX3_mayBeginValue 73 = .ok (.iconst 0, 1) := by decide +kernel
theorem dX3_mayBeginValue_74 : decode cX3_mayBeginValue 74 = .ok (.ireturn, 1) := by decide +kernel
theorem dX3_takesBetween_0 : decode cX3_takesBetween 0 = .ok (.aload_n 0, 1) := by decide +kernel
theorem dX3_takesBetween_1 : decode cX3_takesBetween 1 = .ok (.iconst 0, 1) := by decide +kernel
theorem dX3_takesBetween_2 : decode cX3_takesBetween 2 = .ok (.putfield 11, 3) := by decide +kernel
theorem dX3_takesBetween_5 : decode cX3_takesBetween 5 = .ok (.iconst 1, 1) := by decide +kernel
theorem dX3_takesBetween_6 : decode cX3_takesBetween 6 = .ok (.ireturn, 1) := by decide +kernel
theorem dX3_takesDigit_0 : decode cX3_takesDigit 0 = .ok (.aload_n 0, 1) := by decide +kernel
theorem dX3_takesDigit_1 : decode cX3_takesDigit 1 = .ok (.getfield 21, 3) := by decide +kernel
theorem dX3_takesDigit_4 : decode cX3_takesDigit 4 = .ok (.bipush 43, 2) := by decide +kernel
theorem dX3_takesDigit_6 : decode cX3_takesDigit 6 = .ok (.if_icmp .ne 22, 3) := by decide +kernel
theorem dX3_takesDigit_9 : decode cX3_takesDigit 9 = .ok (.aload_n 0, 1) := by decide +kernel
theorem dX3_takesDigit_10 : decode cX3_takesDigit 10 = .ok (.getfield 15, 3) := by decide +kernel
theorem dX3_takesDigit_13 : decode cX3_takesDigit 13 = .ok (.bipush 6, 2) := by decide +kernel
theorem dX3_takesDigit_15 : decode cX3_takesDigit 15 = .ok (.if_icmp .ge 13, 3) := by decide +kernel
theorem dX3_takesDigit_18 : decode cX3_takesDigit 18 = .ok (.iload_n 1, 1) := by decide +kernel
theorem dX3_takesDigit_19 : decode cX3_takesDigit 19 = .ok (.ifCond .lt 9, 3) := by decide +kernel
theorem dX3_takesDigit_22 : decode cX3_takesDigit 22 = .ok (.iload_n 1, 1) := by decide +kernel
theorem dX3_takesDigit_23 : decode cX3_takesDigit 23 = .ok (.bipush 9, 2) := by decide +kernel
theorem dX3_takesDigit_25 : decode cX3_takesDigit 25 = .ok (.if_icmp .le 5, 3) := by decide +kernel
theorem dX3_takesDigit_28 : decode cX3_takesDigit 28 = .ok (.iconst 0, 1) := by decide +kernel
theorem dX3_takesDigit_29 : decode cX3_takesDigit 29 = .ok (.ireturn, 1) := by decide +kernel
theorem dX3_takesDigit_30 : decode cX3_takesDigit 30 = .ok (.aload_n 0, 1) := by decide +kernel
theorem dX3_takesDigit_31 : decode cX3_takesDigit 31 = .ok (.bipush 10, 2) := by decide +kernel
theorem dX3_takesDigit_33 : decode cX3_takesDigit 33 = .ok (.aload_n 0, 1) := by decide +kernel
theorem dX3_takesDigit_34 : decode cX3_takesDigit 34 = .ok (.getfield 25, 3) := by decide +kernel
theorem dX3_takesDigit_37 : decode cX3_takesDigit 37 = .ok (.imul, 1) := by decide +kernel
theorem dX3_takesDigit_38 : decode cX3_takesDigit 38 = .ok (.iload_n 1, 1) := by decide +kernel
theorem dX3_takesDigit_39 : decode cX3_takesDigit 39 = .ok (.iadd, 1) := by decide +kernel
theorem dX3_takesDigit_40 : decode cX3_takesDigit 40 = .ok (.putfield 25, 3) := by decide +kernel
theorem dX3_takesDigit_43 : decode cX3_takesDigit 43 = .ok (.aload_n 0, 1) := by decide +kernel
theorem dX3_takesDigit_44 : decode cX3_takesDigit 44 = .ok (.dup, 1) := by decide +kernel
theorem dX3_takesDigit_45 : decode cX3_takesDigit 45 = .ok (.getfield 15, 3) := by decide +kernel
theorem dX3_takesDigit_48 : decode cX3_takesDigit 48 = .ok (.iconst 1, 1) := by decide +kernel
theorem dX3_takesDigit_49 : decode cX3_takesDigit 49 = .ok (.iadd, 1) := by decide +kernel
theorem dX3_takesDigit_50 : decode cX3_takesDigit 50 = .ok (.putfield 15, 3) := by decide +kernel
theorem dX3_takesDigit_53 : decode cX3_takesDigit 53 = .ok (.iconst 1, 1) := by decide +kernel
theorem dX3_takesDigit_54 : decode cX3_takesDigit 54 = .ok (.ireturn, 1) := by decide +kernel
theorem dX4_init_0 : decode cX4_init 0 = .ok (.aload_n 0, 1) := by decide +kernel
theorem dX4_init_1 : decode cX4_init 1 = .ok (.invokespecial 1, 3) := by decide +kernel
theorem dX4_init_4 : decode cX4_init 4 = .ok (.aload_n 0, 1) := by decide +kernel
theorem dX4_init_5 : decode cX4_init 5 = .ok (.new 7, 3) := by decide +kernel
theorem dX4_init_8 : decode cX4_init 8 = .ok (.dup, 1) := by decide +kernel
theorem dX4_init_9 : decode cX4_init 9 = .ok (.invokespecial 9, 3) := by decide +kernel
theorem dX4_init_12 : decode cX4_init 12 = .ok (.putfield 10, 3) := by decide +kernel
theorem dX4_init_15 : decode cX4_init 15 = .ok (.aload_n 0, 1) := by decide +kernel
theorem dX4_init_16 : decode cX4_init 16 = .ok (.new 16, 3) := by decide +kernel
theorem dX4_init_19 : decode cX4_init 19 = .ok (.dup, 1) := by decide +kernel
theorem dX4_init_20 : decode cX4_init 20 = .ok (.invokespecial 18, 3) := by decide +kernel
theorem dX4_init_23 : decode cX4_init 23 = .ok (.putfield 19, 3) := by decide +kernel
theorem dX4_init_26 : decode cX4_init 26 = .ok (.aload_n 0, 1) := by decide +kernel
theorem dX4_init_27 : decode cX4_init 27 = .ok (.iconst 2, 1) := by decide +kernel
theorem dX4_init_28 : decode cX4_init 28 = .ok (.anewarray 7, 3) := by decide +kernel
theorem dX4_init_31 : decode cX4_init 31 = .ok (.putfield 23, 3) := by decide +kernel
theorem dX4_init_34 : decode cX4_init 34 = .ok (.aload_n 0, 1) := by decide +kernel
theorem dX4_init_35 : decode cX4_init 35 = .ok (.bipush 60, 2) := by decide +kernel
theorem dX4_init_37 : decode cX4_init 37 = .ok (.newarray .char, 2) := by decide +kernel
theorem dX4_init_39 : decode cX4_init 39 = .ok (.putfield 27, 3) := by decide +kernel
theorem dX4_init_42 : decode cX4_init 42 = .ok (.aload_n 0, 1) := by decide +kernel
theorem dX4_init_43 : decode cX4_init 43 = .ok (.iconst 0, 1) := by decide +kernel
theorem dX4_init_44 : decode cX4_init 44 = .ok (.putfield 31, 3) := by decide +kernel
theorem dX4_init_47 : decode cX4_init 47 = .ok (.aload_n 0, 1) := by decide +kernel
theorem dX4_init_48 : decode cX4_init 48 = .ok (.new 35, 3) := by decide +kernel
theorem dX4_init_51 : decode cX4_init 51 = .ok (.dup, 1) := by decide +kernel
theorem dX4_init_52 : decode cX4_init 52 = .ok (.invokespecial 37, 3) := by decide +kernel
theorem dX4_init_55 : decode cX4_init 55 = .ok (.putfield 38, 3) := by decide +kernel
theorem dX4_init_58 : decode cX4_init 58 = .ok (.aload_n 0, 1) := by decide +kernel
theorem dX4_init_59 : decode cX4_init 59 = .ok (.new 42, 3) := by decide +kernel
theorem dX4_init_62 : decode cX4_init 62 = .ok (.dup, 1) := by decide +kernel
theorem dX4_init_63 : decode cX4_init 63 = .ok (.invokespecial 44, 3) := by decide +kernel
theorem dX4_init_66 : decode cX4_init 66 = .ok (.putfield 45, 3) := by decide +kernel
theorem dX4_init_69 : decode cX4_init 69 = .ok (.aload_n 0, 1) := by decide +kernel
theorem dX4_init_70 : decode cX4_init 70 = .ok (.bipush 7, 2) := by decide +kernel
theorem dX4_init_72 : decode cX4_init 72 = .ok (.newarray .int, 2) := by decide +kernel
theorem dX4_init_74 : decode cX4_init 74 = .ok (.putfield 49, 3) := by decide +kernel
theorem dX4_init_77 : decode cX4_init 77 = .ok (.return_, 1) := by decide +kernel
theorem dX4_tie_0 : decode cX4_tie 0 = .ok (.aload_n 0, 1) := by decide +kernel
theorem dX4_tie_1 : decode cX4_tie 1 = .ok (.iload_n 1, 1) := by decide +kernel
theorem dX4_tie_2 : decode cX4_tie 2 = .ok (.invokevirtual 53, 3) := by decide +kernel
theorem dX4_tie_5 : decode cX4_tie 5 = .ok (.astore_n 3, 1) := by decide +kernel
theorem dX4_tie_6 : decode cX4_tie 6 = .ok (.iload_n 2, 1) := by decide +kernel
theorem dX4_tie_7 : decode cX4_tie 7 = .ok (.invokestatic 57, 3) := by decide +kernel
theorem dX4_tie_10 : decode cX4_tie 10 = .ok (.aload_n 0, 1) := by decide +kernel
theorem dX4_tie_11 : decode cX4_tie 11 = .ok (.getfield 19, 3) := by decide +kernel
theorem dX4_tie_14 : decode cX4_tie 14 = .ok (.aload_n 0, 1) := by decide +kernel
theorem dX4_tie_15 : decode cX4_tie 15 = .ok (.getfield 10, 3) := by decide +kernel
theorem dX4_tie_18 : decode cX4_tie 18 = .ok (.invokevirtual 61, 3) := by decide +kernel
theorem dX4_tie_21 : decode cX4_tie 21 = .ok (.aload_n 0, 1) := by decide +kernel
theorem dX4_tie_22 : decode cX4_tie 22 = .ok (.getfield 10, 3) := by decide +kernel
theorem dX4_tie_25 : decode cX4_tie 25 = .ok (.aload_n 3, 1) := by decide +kernel
theorem dX4_tie_26 : decode cX4_tie 26 = .ok (.iload_n 2, 1) := by decide +kernel
theorem dX4_tie_27 : decode cX4_tie 27 = .ok (.invokevirtual 65, 3) := by decide +kernel
theorem dX4_tie_30 : decode cX4_tie 30 = .ok (.ireturn, 1) := by decide +kernel
theorem dX4_add_0 : decode cX4_add 0 = .ok (.aload_n 0, 1) := by decide +kernel
theorem dX4_add_1 : decode cX4_add 1 = .ok (.iload_n 1, 1) := by decide +kernel
theorem dX4_add_2 : decode cX4_add 2 = .ok (.invokevirtual 53, 3) := by decide +kernel
theorem dX4_add_5 : decode cX4_add 5 = .ok (.astore_n 3, 1) := by decide +kernel
theorem dX4_add_6 : decode cX4_add 6 = .ok (.aload_n 0, 1) := by decide +kernel
theorem dX4_add_7 : decode cX4_add 7 = .ok (.iload_n 2, 1) := by decide +kernel
theorem dX4_add_8 : decode cX4_add 8 = .ok (.invokevirtual 53, 3) := by decide +kernel
theorem dX4_add_11 : decode cX4_add 11 = .ok (.astore 4, 2) := by decide +kernel
theorem dX4_add_13 : decode cX4_add 13 = .ok (.iload_n 1, 1) := by decide +kernel
theorem dX4_add_14 : decode cX4_add 14 = .ok (.iload_n 2, 1) := by decide +kernel
theorem dX4_add_15 : decode cX4_add 15 = .ok (.if_icmp .ne 13, 3) := by decide +kernel
theorem dX4_add_18 : decode cX4_add 18 = .ok (.new 69, 3) := by decide +kernel
theorem dX4_add_21 : decode cX4_add 21 = .ok (.dup, 1) := by decide +kernel
theorem dX4_add_22 : decode cX4_add 22 = .ok (.ldc 71, 2) := by decide +kernel
theorem dX4_add_24 : decode cX4_add 24 = .ok (.invokespecial 73, 3) := by decide +kernel
theorem dX4_add_27 : decode cX4_add 27 = .ok (.athrow, 1) := by decide +kernel
theorem dX4_add_28 : decode cX4_add 28 = .ok (.aload_n 0, 1) := by decide +kernel
theorem dX4_add_29 : decode cX4_add 29 = .ok (.getfield 19, 3) := by decide +kernel
theorem dX4_add_32 : decode cX4_add 32 = .ok (.aload_n 0, 1) := by decide +kernel
theorem dX4_add_33 : decode cX4_add 33 = .ok (.getfield 10, 3) := by decide +kernel
theorem dX4_add_36 : decode cX4_add 36 = .ok (.invokevirtual 61, 3) := by decide +kernel
theorem dX4_add_39 : decode cX4_add 39 = .ok (.aload_n 0, 1) := by decide +kernel
theorem dX4_add_40 : decode cX4_add 40 = .ok (.getfield 10, 3) := by decide +kernel
theorem dX4_add_43 : decode cX4_add 43 = .ok (.aload_n 3, 1) := by decide +kernel
theorem dX4_add_44 : decode cX4_add 44 = .ok (.aload 4, 2) := by decide +kernel
theorem dX4_add_46 : decode cX4_add 46 = .ok (.invokevirtual 76, 3) := by decide +kernel
theorem dX4_add_49 : decode cX4_add 49 = .ok (.ireturn, 1) := by decide +kernel
theorem dX4_slip_0 : decode cX4_slip 0 = .ok (.aload_n 0, 1) := by decide +kernel
theorem dX4_slip_1 : decode cX4_slip 1 = .ok (.iload_n 1, 1) := by decide +kernel
theorem dX4_slip_2 : decode cX4_slip 2 = .ok (.invokevirtual 53, 3) := by decide +kernel
theorem dX4_slip_5 : decode cX4_slip 5 = .ok (.astore_n 3, 1) := by decide +kernel
theorem dX4_slip_6 : decode cX4_slip 6 = .ok (.iload_n 2, 1) := by decide +kernel
theorem dX4_slip_7 : decode cX4_slip 7 = .ok (.invokestatic 80, 3) := by decide +kernel
theorem dX4_slip_10 : decode cX4_slip 10 = .ok (.aload_n 0, 1) := by decide +kernel
theorem dX4_slip_11 : decode cX4_slip 11 = .ok (.getfield 19, 3) := by decide +kernel
theorem dX4_slip_14 : decode cX4_slip 14 = .ok (.aload_n 0, 1) := by decide +kernel
theorem dX4_slip_15 : decode cX4_slip 15 = .ok (.getfield 10, 3) := by decide +kernel
theorem dX4_slip_18 : decode cX4_slip 18 = .ok (.invokevirtual 61, 3) := by decide +kernel
theorem dX4_slip_21 : decode cX4_slip 21 = .ok (.aload_n 0, 1) := by decide +kernel
theorem dX4_slip_22 : decode cX4_slip 22 = .ok (.getfield 10, 3) := by decide +kernel
theorem dX4_slip_25 : decode cX4_slip 25 = .ok (.aload_n 3, 1) := by decide +kernel
theorem dX4_slip_26 : decode cX4_slip 26 = .ok (.iload_n 2, 1) := by decide +kernel
theorem dX4_slip_27 : decode cX4_slip 27 = .ok (.invokevirtual 83, 3) := by decide +kernel
theorem dX4_slip_30 : decode cX4_slip 30 = .ok (.ireturn, 1) := by decide +kernel
theorem dX4_mend_0 : decode cX4_mend 0 = .ok (.aload_n 0, 1) := by decide +kernel
theorem dX4_mend_1 : decode cX4_mend 1 = .ok (.iload_n 1, 1) := by decide +kernel
theorem dX4_mend_2 : decode cX4_mend 2 = .ok (.invokevirtual 53, 3) := by decide +kernel
theorem dX4_mend_5 : decode cX4_mend 5 = .ok (.astore_n 2, 1) := by decide +kernel
theorem dX4_mend_6 : decode cX4_mend 6 = .ok (.aload_n 0, 1) := by decide +kernel
theorem dX4_mend_7 : decode cX4_mend 7 = .ok (.getfield 19, 3) := by decide +kernel
theorem dX4_mend_10 : decode cX4_mend 10 = .ok (.aload_n 0, 1) := by decide +kernel
theorem dX4_mend_11 : decode cX4_mend 11 = .ok (.getfield 10, 3) := by decide +kernel
theorem dX4_mend_14 : decode cX4_mend 14 = .ok (.invokevirtual 61, 3) := by decide +kernel
theorem dX4_mend_17 : decode cX4_mend 17 = .ok (.aload_n 0, 1) := by decide +kernel
theorem dX4_mend_18 : decode cX4_mend 18 = .ok (.getfield 10, 3) := by decide +kernel
theorem dX4_mend_21 : decode cX4_mend 21 = .ok (.aload_n 2, 1) := by decide +kernel
theorem dX4_mend_22 : decode cX4_mend 22 = .ok (.invokevirtual 86, 3) := by decide +kernel
theorem dX4_mend_25 : decode cX4_mend 25 = .ok (.ireturn, 1) := by decide +kernel
theorem dX4_renew_0 : decode cX4_renew 0 = .ok (.aload_n 0, 1) := by decide +kernel
theorem dX4_renew_1 : decode cX4_renew 1 = .ok (.iload_n 1, 1) := by decide +kernel
theorem dX4_renew_2 : decode cX4_renew 2 = .ok (.invokevirtual 53, 3) := by decide +kernel
theorem dX4_renew_5 : decode cX4_renew 5 = .ok (.astore_n 2, 1) := by decide +kernel
theorem dX4_renew_6 : decode cX4_renew 6 = .ok (.aload_n 0, 1) := by decide +kernel
theorem dX4_renew_7 : decode cX4_renew 7 = .ok (.getfield 19, 3) := by decide +kernel
theorem dX4_renew_10 : decode cX4_renew 10 = .ok (.aload_n 0, 1) := by decide +kernel
theorem dX4_renew_11 : decode cX4_renew 11 = .ok (.getfield 10, 3) := by decide +kernel
theorem dX4_renew_14 : decode cX4_renew 14 = .ok (.invokevirtual 61, 3) := by decide +kernel
theorem dX4_renew_17 : decode cX4_renew 17 = .ok (.aload_n 0, 1) := by decide +kernel
theorem dX4_renew_18 : decode cX4_renew 18 = .ok (.getfield 10, 3) := by decide +kernel
theorem dX4_renew_21 : decode cX4_renew 21 = .ok (.aload_n 2, 1) := by decide +kernel
theorem dX4_renew_22 : decode cX4_renew 22 = .ok (.invokevirtual 90, 3) := by decide +kernel
theorem dX4_renew_25 : decode cX4_renew 25 = .ok (.ireturn, 1) := by decide +kernel
theorem dX4_dye_0 : decode cX4_dye 0 = .ok (.aload_n 0, 1) := by decide +kernel
theorem dX4_dye_1 : decode cX4_dye 1 = .ok (.iload_n 1, 1) := by decide +kernel
theorem dX4_dye_2 : decode cX4_dye 2 = .ok (.invokevirtual 53, 3) := by decide +kernel
theorem dX4_dye_5 : decode cX4_dye 5 = .ok (.astore_n 3, 1) := by decide +kernel
theorem dX4_dye_6 : decode cX4_dye 6 = .ok (.iload_n 2, 1) := by decide +kernel
theorem dX4_dye_7 : decode cX4_dye 7 = .ok (.invokestatic 93, 3) := by decide +kernel
theorem dX4_dye_10 : decode cX4_dye 10 = .ok (.aload_n 0, 1) := by decide +kernel
theorem dX4_dye_11 : decode cX4_dye 11 = .ok (.getfield 19, 3) := by decide +kernel
theorem dX4_dye_14 : decode cX4_dye 14 = .ok (.aload_n 0, 1) := by decide +kernel
theorem dX4_dye_15 : decode cX4_dye 15 = .ok (.getfield 10, 3) := by decide +kernel
theorem dX4_dye_18 : decode cX4_dye 18 = .ok (.invokevirtual 61, 3) := by decide +kernel
theorem dX4_dye_21 : decode cX4_dye 21 = .ok (.aload_n 3, 1) := by decide +kernel
theorem dX4_dye_22 : decode cX4_dye 22 = .ok (.getfield 96, 3) := by decide +kernel
theorem dX4_dye_25 : decode cX4_dye 25 = .ok (.istore 4, 2) := by decide +kernel
theorem dX4_dye_27 : decode cX4_dye 27 = .ok (.aload_n 3, 1) := by decide +kernel
theorem dX4_dye_28 : decode cX4_dye 28 = .ok (.iload_n 2, 1) := by decide +kernel
theorem dX4_dye_29 : decode cX4_dye 29 = .ok (.putfield 96, 3) := by decide +kernel
theorem dX4_dye_32 : decode cX4_dye 32 = .ok (.iload 4, 2) := by decide +kernel
theorem dX4_dye_34 : decode cX4_dye 34 = .ok (.ireturn, 1) := by decide +kernel
theorem dX4_set_0 : decode cX4_set 0 = .ok (.iload_n 1, 1) := by decide +kernel
theorem dX4_set_1 : decode cX4_set 1 = .ok (.bipush 20, 2) := by decide +kernel
theorem dX4_set_3 : decode cX4_set 3 = .ok (.if_icmp .lt 9, 3) := by decide +kernel
theorem dX4_set_6 : decode cX4_set 6 = .ok (.iload_n 1, 1) := by decide +kernel
theorem dX4_set_7 : decode cX4_set 7 = .ok (.bipush 99, 2) := by decide +kernel
theorem dX4_set_9 : decode cX4_set 9 = .ok (.if_icmp .le 13, 3) := by decide +kernel
theorem dX4_set_12 : decode cX4_set 12 = .ok (.new 69, 3) := by decide +kernel
theorem dX4_set_15 : decode cX4_set 15 = .ok (.dup, 1) := by decide +kernel
theorem dX4_set_16 : decode cX4_set 16 = .ok (.ldc 99, 2) := by decide +kernel
theorem dX4_set_18 : decode cX4_set 18 = .ok (.invokespecial 73, 3) := by decide +kernel
theorem dX4_set_21 : decode cX4_set 21 = .ok (.athrow, 1) := by decide +kernel
theorem dX4_set_22 : decode cX4_set 22 = .ok (.aload_n 0, 1) := by decide +kernel
theorem dX4_set_23 : decode cX4_set 23 = .ok (.getfield 19, 3) := by decide +kernel
theorem dX4_set_26 : decode cX4_set 26 = .ok (.aload_n 0, 1) := by decide +kernel
theorem dX4_set_27 : decode cX4_set 27 = .ok (.getfield 10, 3) := by decide +kernel
theorem dX4_set_30 : decode cX4_set 30 = .ok (.invokevirtual 61, 3) := by decide +kernel
theorem dX4_set_33 : decode cX4_set 33 = .ok (.aload_n 0, 1) := by decide +kernel
theorem dX4_set_34 : decode cX4_set 34 = .ok (.getfield 10, 3) := by decide +kernel
theorem dX4_set_37 : decode cX4_set 37 = .ok (.getfield 101, 3) := by decide +kernel
theorem dX4_set_40 : decode cX4_set 40 = .ok (.istore_n 2, 1) := by decide +kernel
theorem dX4_set_41 : decode cX4_set 41 = .ok (.aload_n 0, 1) := by decide +kernel
theorem dX4_set_42 : decode cX4_set 42 = .ok (.getfield 10, 3) := by decide +kernel
theorem dX4_set_45 : decode cX4_set 45 = .ok (.iload_n 1, 1) := by decide +kernel
theorem dX4_set_46 : decode cX4_set 46 = .ok (.putfield 101, 3) := by decide +kernel
theorem dX4_set_49 : decode cX4_set 49 = .ok (.iload_n 2, 1) := by decide +kernel
theorem dX4_set_50 : decode cX4_set 50 = .ok (.ireturn, 1) := by decide +kernel
theorem dX4_append_0 : decode cX4_append 0 = .ok (.iload_n 1, 1) := by decide +kernel
theorem dX4_append_1 : decode cX4_append 1 = .ok (.bipush 33, 2) := by decide +kernel
theorem dX4_append_3 : decode cX4_append 3 = .ok (.if_icmp .lt 9, 3) := by decide +kernel
theorem dX4_append_6 : decode cX4_append 6 = .ok (.iload_n 1, 1) := by decide +kernel
theorem dX4_append_7 : decode cX4_append 7 = .ok (.bipush 126, 2) := by decide +kernel
theorem dX4_append_9 : decode cX4_append 9 = .ok (.if_icmp .le 13, 3) := by decide +kernel
theorem dX4_append_12 : decode cX4_append 12 = .ok (.new 69, 3) := by decide +kernel
theorem dX4_append_15 : decode cX4_append 15 = .ok (.dup, 1) := by decide +kernel
theorem dX4_append_16 : decode cX4_append 16 = .ok (.ldc 104, 2) := by decide +kernel
theorem dX4_append_18 : decode cX4_append 18 = .ok (.invokespecial 73, 3) := by decide +kernel
theorem dX4_append_21 : decode cX4_append 21 = .ok (.athrow, 1) := by decide +kernel
theorem dX4_append_22 : decode cX4_append 22 = .ok (.aload_n 0, 1) := by decide +kernel
theorem dX4_append_23 : decode cX4_append 23 = .ok (.getfield 31, 3) := by decide +kernel
theorem dX4_append_26 : decode cX4_append 26 = .ok (.bipush 60, 2) := by decide +kernel
theorem dX4_append_28 : decode cX4_append 28 = .ok (.if_icmp .lt 13, 3) := by decide +kernel
theorem dX4_append_31 : decode cX4_append 31 = .ok (.new 106, 3) := by decide +kernel
theorem dX4_append_34 : decode cX4_append 34 = .ok (.dup, 1) := by decide +kernel
theorem dX4_append_35 : decode cX4_append 35 = .ok (.ldc 108, 2) := by decide +kernel
theorem dX4_append_37 : decode cX4_append 37 = .ok (.invokespecial 110, 3) := by decide +kernel
theorem dX4_append_40 : decode cX4_append 40 = .ok (.athrow, 1) := by decide +kernel
theorem dX4_append_41 : decode cX4_append 41 = .ok (.aload_n 0, 1) := by decide +kernel
theorem dX4_append_42 : decode cX4_append 42 = .ok (.getfield 27, 3) := by decide +kernel
theorem dX4_append_45 : decode cX4_append 45 = .ok (.aload_n 0, 1) := by decide +kernel
theorem dX4_append_46 : decode cX4_append 46 = .ok (.getfield 31, 3) := by decide +kernel
theorem dX4_append_49 : decode cX4_append 49 = .ok (.iload_n 1, 1) := by decide +kernel
theorem dX4_append_50 : decode cX4_append 50 = .ok (.i2c, 1) := by decide +kernel
theorem dX4_append_51 : decode cX4_append 51 = .ok (.castore, 1) := by decide +kernel
theorem dX4_append_52 : decode cX4_append 52 = .ok (.aload_n 0, 1) := by decide +kernel
theorem dX4_append_53 : decode cX4_append 53 = .ok (.dup, 1) := by decide +kernel
theorem dX4_append_54 : decode cX4_append 54 = .ok (.getfield 31, 3) := by decide +kernel
theorem dX4_append_57 : decode cX4_append 57 = .ok (.iconst 1, 1) := by decide +kernel
theorem dX4_append_58 : decode cX4_append 58 = .ok (.iadd, 1) := by decide +kernel
theorem dX4_append_59 : decode cX4_append 59 = .ok (.putfield 31, 3) := by decide +kernel
theorem dX4_append_62 : decode cX4_append 62 = .ok (.aload_n 0, 1) := by decide +kernel
theorem dX4_append_63 : decode cX4_append 63 = .ok (.getfield 31, 3) := by decide +kernel
theorem dX4_append_66 : decode cX4_append 66 = .ok (.ireturn, 1) := by decide +kernel
theorem dX4_clearBuffer_0 : decode cX4_clearBuffer 0 = .ok (.aload_n 0, 1) := by decide +kernel
theorem dX4_clearBuffer_1 : decode cX4_clearBuffer 1 = .ok (.getfield 31, 3) := by decide +kernel
theorem dX4_clearBuffer_4 : decode cX4_clearBuffer 4 = .ok (.istore_n 1, 1) := by decide +kernel
theorem dX4_clearBuffer_5 : decode cX4_clearBuffer 5 = .ok (.aload_n 0, 1) := by decide +kernel
theorem dX4_clearBuffer_6 : decode cX4_clearBuffer 6 = .ok (.iconst 0, 1) := by decide +kernel
theorem dX4_clearBuffer_7 : decode cX4_clearBuffer 7 = .ok (.putfield 31, 3) := by decide +kernel
theorem dX4_clearBuffer_10 : decode cX4_clearBuffer 10 = .ok (.iload_n 1, 1) := by decide +kernel
theorem dX4_clearBuffer_11 : decode cX4_clearBuffer 11 = .ok (.ireturn, 1) := by decide +kernel
theorem dX4_firstError_0 : decode cX4_firstError 0 = .ok (.aload_n 0, 1) := by decide +kernel
theorem dX4_firstError_1 : decode cX4_firstError 1 = .ok (.invokevirtual 111, 3) := by decide +kernel
theorem dX4_firstError_4 : decode cX4_firstError 4 = .ok (.ireturn, 1) := by decide +kernel
theorem dX4_run_0 : decode cX4_run 0 = .ok (.aload_n 0, 1) := by decide +kernel
theorem dX4_run_1 : decode cX4_run 1 = .ok (.invokevirtual 111, 3) := by decide +kernel
theorem dX4_run_4 : decode cX4_run 4 = .ok (.aload_n 0, 1) := by decide +kernel
theorem dX4_run_5 : decode cX4_run 5 = .ok (.getfield 31, 3) := by decide +kernel
theorem dX4_run_8 : decode cX4_run 8 = .ok (.if_icmp .lt 13, 3) := by decide +kernel
theorem dX4_run_11 : decode cX4_run 11 = .ok (.aload_n 0, 1) := by decide +kernel
theorem dX4_run_12 : decode cX4_run 12 = .ok (.getfield 38, 3) := by decide +kernel
theorem dX4_run_15 : decode cX4_run 15 = .ok (.invokevirtual 115, 3) := by decide +kernel
theorem dX4_run_18 : decode cX4_run 18 = .ok (.ifCond .ne 13, 3) := by decide +kernel
theorem dX4_run_21 : decode cX4_run 21 = .ok (.new 69, 3) := by decide +kernel
theorem dX4_run_24 : decode cX4_run 24 = .ok (.dup, 1) := by decide +kernel
theorem dX4_run_25 : decode cX4_run 25 = .ok (.ldc 119, 2) := by decide +kernel
theorem dX4_run_27 : decode cX4_run 27 = .ok (.invokespecial 73, 3) := by decide +kernel
theorem dX4_run_30 : decode cX4_run 30 = .ok (.athrow, 1) := by decide +kernel
theorem dX4_run_31 : decode cX4_run 31 = .ok (.aload_n 0, 1) := by decide +kernel
theorem dX4_run_32 : decode cX4_run 32 = .ok (.getfield 19, 3) := by decide +kernel
theorem dX4_run_35 : decode cX4_run 35 = .ok (.aload_n 0, 1) := by decide +kernel
theorem dX4_run_36 : decode cX4_run 36 = .ok (.getfield 10, 3) := by decide +kernel
theorem dX4_run_39 : decode cX4_run 39 = .ok (.invokevirtual 61, 3) := by decide +kernel
theorem dX4_run_42 : decode cX4_run 42 = .ok (.iconst 0, 1) := by decide +kernel
theorem dX4_run_43 : decode cX4_run 43 = .ok (.istore_n 1, 1) := by decide +kernel
theorem dX4_run_44 : decode cX4_run 44 = .ok (.iconst 0, 1) := by decide +kernel
theorem dX4_run_45 : decode cX4_run 45 = .ok (.istore_n 2, 1) := by decide +kernel
theorem dX4_run_46 : decode cX4_run 46 = .ok (.aload_n 0, 1) := by decide +kernel
theorem dX4_run_47 : decode cX4_run 47 = .ok (.getfield 38, 3) := by decide +kernel
theorem dX4_run_50 : decode cX4_run 50 = .ok (.invokevirtual 121, 3) := by decide +kernel
theorem dX4_run_53 : decode cX4_run 53 = .ok (.iconst 0, 1) := by decide +kernel
theorem dX4_run_54 : decode cX4_run 54 = .ok (.istore_n 3, 1) := by decide +kernel
theorem dX4_run_55 : decode cX4_run 55 = .ok (.iload_n 3, 1) := by decide +kernel
theorem dX4_run_56 : decode cX4_run 56 = .ok (.aload_n 0, 1) := by decide +kernel
theorem dX4_run_57 : decode cX4_run 57 = .ok (.getfield 31, 3) := by decide +kernel
theorem dX4_run_60 : decode cX4_run 60 = .ok (.if_icmp .gt 79, 3) := by decide +kernel
theorem dX4_run_63 : decode cX4_run 63 = .ok (.iload_n 2, 1) := by decide +kernel
theorem dX4_run_64 : decode cX4_run 64 = .ok (.ifCond .ne 75, 3) := by decide +kernel
theorem dX4_run_67 : decode cX4_run 67 = .ok (.iload_n 3, 1) := by decide +kernel
theorem dX4_run_68 : decode cX4_run 68 = .ok (.aload_n 0, 1) := by decide +kernel
theorem dX4_run_69 : decode cX4_run 69 = .ok (.getfield 31, 3) := by decide +kernel
theorem dX4_run_72 : decode cX4_run 72 = .ok (.if_icmp .eq 14, 3) := by decide +kernel
theorem dX4_run_75 : decode cX4_run 75 = .ok (.aload_n 0, 1) := by decide +kernel
theorem dX4_run_76 : decode cX4_run 76 = .ok (.getfield 27, 3) := by decide +kernel
theorem dX4_run_79 : decode cX4_run 79 = .ok (.iload_n 3, 1) := by decide +kernel
theorem dX4_run_80 : decode cX4_run 80 = .ok (.caload, 1) := by decide +kernel
theorem dX4_run_81 : decode cX4_run 81 = .ok (.bipush 59, 2) := by decide +kernel
theorem dX4_run_83 : decode cX4_run 83 = .ok (.if_icmp .ne 28, 3) := by decide +kernel
theorem dX4_run_86 : decode cX4_run 86 = .ok (.aload_n 0, 1) := by decide +kernel
theorem dX4_run_87 : decode cX4_run 87 = .ok (.invokevirtual 124, 3) := by decide +kernel
theorem dX4_run_90 : decode cX4_run 90 = .ok (.ifCond .ne 7, 3) := by decide +kernel
theorem dX4_run_93 : decode cX4_run 93 = .ok (.iconst 1, 1) := by decide +kernel
theorem dX4_run_94 : decode cX4_run 94 = .ok (.goto 4, 3) := by decide +kernel
theorem dX4_run_97 : decode cX4_run 97 = .ok (.iconst 0, 1) := by decide +kernel
theorem dX4_run_98 : decode cX4_run 98 = .ok (.istore_n 2, 1) := by decide +kernel
theorem dX4_run_99 : decode cX4_run 99 = .ok (.iload_n 1, 1) := by decide +kernel
theorem dX4_run_100 : decode cX4_run 100 = .ok (.iload_n 2, 1) := by decide +kernel
theorem dX4_run_101 : decode cX4_run 101 = .ok (.ifCond .eq 7, 3) := by decide +kernel
theorem dX4_run_104 : decode cX4_run 104 = .ok (.iconst 0, 1) := by decide +kernel
theorem dX4_run_105 : decode cX4_run 105 = .ok (.goto 4, 3) := by decide +kernel
theorem dX4_run_108 : decode cX4_run 108 = .ok (.iconst 1, 1) := by decide +kernel
theorem dX4_run_109 : decode cX4_run 109 = .ok (.iadd, 1) := by decide +kernel
theorem dX4_run_110 : decode cX4_run 110 = .ok (.istore_n 1, 1) := by decide +kernel
theorem dX4_run_111 : decode cX4_run 111 = .ok (.iload_n 3, 1) := by decide +kernel
theorem dX4_run_112 : decode cX4_run 112 = .ok (.aload_n 0, 1) := by decide +kernel
theorem dX4_run_113 : decode cX4_run 113 = .ok (.getfield 31, 3) := by decide +kernel
theorem dX4_run_116 : decode cX4_run 116 = .ok (.if_icmp .ge 17, 3) := by decide +kernel
theorem dX4_run_119 : decode cX4_run 119 = .ok (.aload_n 0, 1) := by decide +kernel
theorem dX4_run_120 : decode cX4_run 120 = .ok (.getfield 38, 3) := by decide +kernel
theorem dX4_run_123 : decode cX4_run 123 = .ok (.aload_n 0, 1) := by decide +kernel
theorem dX4_run_124 : decode cX4_run 124 = .ok (.getfield 27, 3) := by decide +kernel
theorem dX4_run_127 : decode cX4_run 127 = .ok (.iload_n 3, 1) := by decide +kernel
theorem dX4_run_128 : decode cX4_run 128 = .ok (.caload, 1) := by decide +kernel
theorem dX4_run_129 : decode cX4_run 129 = .ok (.invokevirtual 127, 3) := by decide +kernel
theorem dX4_run_132 : decode cX4_run 132 = .ok (.pop, 1) := by decide +kernel
theorem dX4_run_133 : decode cX4_run 133 = .ok (.iinc 3 1, 3) := by decide +kernel
theorem dX4_run_136 : decode cX4_run 136 = .ok (.goto (-81), 3) := by decide +kernel
theorem dX4_run_139 : decode cX4_run 139 = .ok (.aload_n 0, 1) := by decide +kernel
theorem dX4_run_140 : decode cX4_run 140 = .ok (.iconst 0, 1) := by decide +kernel
theorem dX4_run_141 : decode cX4_run 141 = .ok (.putfield 31, 3) := by decide +kernel
theorem dX4_run_144 : decode cX4_run 144 = .ok (.iload_n 1, 1) := by decide +kernel
theorem dX4_run_145 : decode cX4_run 145 = .ok (.ireturn, 1) := by decide +kernel
theorem dX4_keep_0 : decode cX4_keep 0 = .ok (.iload_n 1, 1) := by decide +kernel
theorem dX4_keep_1 : decode cX4_keep 1 = .ok (.invokestatic 131, 3) := by decide +kernel
theorem dX4_keep_4 : decode cX4_keep 4 = .ok (.aload_n 0, 1) := by decide +kernel
theorem dX4_keep_5 : decode cX4_keep 5 = .ok (.getfield 23, 3) := by decide +kernel
theorem dX4_keep_8 : decode cX4_keep 8 = .ok (.iload_n 1, 1) := by decide +kernel
theorem dX4_keep_9 : decode cX4_keep 9 = .ok (.aaload, 1) := by decide +kernel
theorem dX4_keep_10 : decode cX4_keep 10 = .ok (.astore_n 2, 1) := by decide +kernel
theorem dX4_keep_11 : decode cX4_keep 11 = .ok (.aload_n 2, 1) := by decide +kernel
theorem dX4_keep_12 : decode cX4_keep 12 = .ok (.ifnonnull 18, 3) := by decide +kernel
theorem dX4_keep_15 : decode cX4_keep 15 = .ok (.new 7, 3) := by decide +kernel
theorem dX4_keep_18 : decode cX4_keep 18 = .ok (.dup, 1) := by decide +kernel
theorem dX4_keep_19 : decode cX4_keep 19 = .ok (.invokespecial 9, 3) := by decide +kernel
theorem dX4_keep_22 : decode cX4_keep 22 = .ok (.astore_n 2, 1) := by decide +kernel
theorem dX4_keep_23 : decode cX4_keep 23 = .ok (.aload_n 0, 1) := by decide +kernel
theorem dX4_keep_24 : decode cX4_keep 24 = .ok (.getfield 23, 3) := by decide +kernel
theorem dX4_keep_27 : decode cX4_keep 27 = .ok (.iload_n 1, 1) := by decide +kernel
theorem dX4_keep_28 : decode cX4_keep 28 = .ok (.aload_n 2, 1) := by decide +kernel
theorem dX4_keep_29 : decode cX4_keep 29 = .ok (.aastore, 1) := by decide +kernel
theorem dX4_keep_30 : decode cX4_keep 30 = .ok (.aload_n 2, 1) := by decide +kernel
theorem dX4_keep_31 : decode cX4_keep 31 = .ok (.aload_n 0, 1) := by decide +kernel
theorem dX4_keep_32 : decode cX4_keep 32 = .ok (.getfield 10, 3) := by decide +kernel
theorem dX4_keep_35 : decode cX4_keep 35 = .ok (.invokevirtual 134, 3) := by decide +kernel
theorem dX4_keep_38 : decode cX4_keep 38 = .ok (.aload_n 0, 1) := by decide +kernel
theorem dX4_keep_39 : decode cX4_keep 39 = .ok (.getfield 10, 3) := by decide +kernel
theorem dX4_keep_42 : decode cX4_keep 42 = .ok (.invokevirtual 137, 3) := by decide +kernel
theorem dX4_keep_45 : decode cX4_keep 45 = .ok (.ireturn, 1) := by decide +kernel
theorem dX4_goBack_0 : decode cX4_goBack 0 = .ok (.iload_n 1, 1) := by decide +kernel
theorem dX4_goBack_1 : decode cX4_goBack 1 = .ok (.invokestatic 131, 3) := by decide +kernel
theorem dX4_goBack_4 : decode cX4_goBack 4 = .ok (.aload_n 0, 1) := by decide +kernel
theorem dX4_goBack_5 : decode cX4_goBack 5 = .ok (.getfield 23, 3) := by decide +kernel
theorem dX4_goBack_8 : decode cX4_goBack 8 = .ok (.iload_n 1, 1) := by decide +kernel
theorem dX4_goBack_9 : decode cX4_goBack 9 = .ok (.aaload, 1) := by decide +kernel
theorem dX4_goBack_10 : decode cX4_goBack 10 = .ok (.astore_n 2, 1) := by decide +kernel
theorem dX4_goBack_11 : decode cX4_goBack 11 = .ok (.aload_n 2, 1) := by decide +kernel
theorem dX4_goBack_12 : decode cX4_goBack 12 = .ok (.ifnonnull 13, 3) := by decide +kernel
theorem dX4_goBack_15 : decode cX4_goBack 15 = .ok (.new 106, 3) := by decide +kernel
theorem dX4_goBack_18 : decode cX4_goBack 18 = .ok (.dup, 1) := by decide +kernel
theorem dX4_goBack_19 : decode cX4_goBack 19 = .ok (.ldc 140, 2) := by decide +kernel
theorem dX4_goBack_21 : decode cX4_goBack 21 = .ok (.invokespecial 110, 3) := by decide +kernel
theorem dX4_goBack_24 : decode cX4_goBack 24 = .ok (.athrow, 1) := by decide +kernel
theorem dX4_goBack_25 : decode cX4_goBack 25 = .ok (.aload_n 0, 1) := by decide +kernel
theorem dX4_goBack_26 : decode cX4_goBack 26 = .ok (.getfield 19, 3) := by decide +kernel
theorem dX4_goBack_29 : decode cX4_goBack 29 = .ok (.aload_n 0, 1) := by decide +kernel
theorem dX4_goBack_30 : decode cX4_goBack 30 = .ok (.getfield 10, 3) := by decide +kernel
theorem dX4_goBack_33 : decode cX4_goBack 33 = .ok (.invokevirtual 61, 3) := by decide +kernel
theorem dX4_goBack_36 : decode cX4_goBack 36 = .ok (.aload_n 0, 1) := by decide +kernel
theorem dX4_goBack_37 : decode cX4_goBack 37 = .ok (.getfield 10, 3) := by decide +kernel
theorem dX4_goBack_40 : decode cX4_goBack 40 = .ok (.aload_n 2, 1) := by decide +kernel
theorem dX4_goBack_41 : decode cX4_goBack 41 = .ok (.invokevirtual 134, 3) := by decide +kernel
theorem dX4_goBack_44 : decode cX4_goBack 44 = .ok (.aload_n 0, 1) := by decide +kernel
theorem dX4_goBack_45 : decode cX4_goBack 45 = .ok (.getfield 10, 3) := by decide +kernel
theorem dX4_goBack_48 : decode cX4_goBack 48 = .ok (.invokevirtual 137, 3) := by decide +kernel
theorem dX4_goBack_51 : decode cX4_goBack 51 = .ok (.ireturn, 1) := by decide +kernel
theorem dX4_undo_0 : decode cX4_undo 0 = .ok (.aload_n 0, 1) := by decide +kernel
theorem dX4_undo_1 : decode cX4_undo 1 = .ok (.getfield 19, 3) := by decide +kernel
theorem dX4_undo_4 : decode cX4_undo 4 = .ok (.getfield 142, 3) := by decide +kernel
theorem dX4_undo_7 : decode cX4_undo 7 = .ok (.ifCond .ne 13, 3) := by decide +kernel
theorem dX4_undo_10 : decode cX4_undo 10 = .ok (.new 106, 3) := by decide +kernel
theorem dX4_undo_13 : decode cX4_undo 13 = .ok (.dup, 1) := by decide +kernel
theorem dX4_undo_14 : decode cX4_undo 14 = .ok (.ldc 145, 2) := by decide +kernel
theorem dX4_undo_16 : decode cX4_undo 16 = .ok (.invokespecial 110, 3) := by decide +kernel
theorem dX4_undo_19 : decode cX4_undo 19 = .ok (.athrow, 1) := by decide +kernel
theorem dX4_undo_20 : decode cX4_undo 20 = .ok (.aload_n 0, 1) := by decide +kernel
theorem dX4_undo_21 : decode cX4_undo 21 = .ok (.getfield 19, 3) := by decide +kernel
theorem dX4_undo_24 : decode cX4_undo 24 = .ok (.aload_n 0, 1) := by decide +kernel
theorem dX4_undo_25 : decode cX4_undo 25 = .ok (.getfield 10, 3) := by decide +kernel
theorem dX4_undo_28 : decode cX4_undo 28 = .ok (.invokevirtual 147, 3) := by decide +kernel
theorem dX4_undo_31 : decode cX4_undo 31 = .ok (.aload_n 0, 1) := by decide +kernel
theorem dX4_undo_32 : decode cX4_undo 32 = .ok (.getfield 19, 3) := by decide +kernel
theorem dX4_undo_35 : decode cX4_undo 35 = .ok (.getfield 142, 3) := by decide +kernel
theorem dX4_undo_38 : decode cX4_undo 38 = .ok (.ireturn, 1) := by decide +kernel
theorem dX4_cordOf_0 : decode cX4_cordOf 0 = .ok (.aload_n 0, 1) := by decide +kernel
theorem dX4_cordOf_1 : decode cX4_cordOf 1 = .ok (.iload_n 1, 1) := by decide +kernel
theorem dX4_cordOf_2 : decode cX4_cordOf 2 = .ok (.invokevirtual 53, 3) := by decide +kernel
theorem dX4_cordOf_5 : decode cX4_cordOf 5 = .ok (.astore_n 3, 1) := by decide +kernel
theorem dX4_cordOf_6 : decode cX4_cordOf 6 = .ok (.iload_n 2, 1) := by decide +kernel
theorem dX4_cordOf_7 : decode cX4_cordOf 7 = .ok (.tableswitch 85 0 7 #[45, 50, 55, 60, 65, 70, 75, 80], 45) := by decide +kernel
theorem dX4_cordOf_52 : decode cX4_cordOf 52 = .ok (.aload_n 3, 1) := by decide +kernel
theorem dX4_cordOf_53 : decode cX4_cordOf 53 = .ok (.invokevirtual 150, 3) := by decide +kernel
theorem dX4_cordOf_56 : decode cX4_cordOf 56 = .ok (.ireturn, 1) := by decide +kernel
theorem dX4_cordOf_57 : decode cX4_cordOf 57 = .ok (.aload_n 3, 1) := by decide +kernel
theorem dX4_cordOf_58 : decode cX4_cordOf 58 = .ok (.invokevirtual 152, 3) := by decide +kernel
theorem dX4_cordOf_61 : decode cX4_cordOf 61 = .ok (.ireturn, 1) := by decide +kernel
theorem dX4_cordOf_62 : decode cX4_cordOf 62 = .ok (.aload_n 3, 1) := by decide +kernel
theorem dX4_cordOf_63 : decode cX4_cordOf 63 = .ok (.getfield 155, 3) := by decide +kernel
theorem dX4_cordOf_66 : decode cX4_cordOf 66 = .ok (.ireturn, 1) := by decide +kernel
theorem dX4_cordOf_67 : decode cX4_cordOf 67 = .ok (.aload_n 3, 1) := by decide +kernel
theorem dX4_cordOf_68 : decode cX4_cordOf 68 = .ok (.invokevirtual 158, 3) := by decide +kernel
theorem dX4_cordOf_71 : decode cX4_cordOf 71 = .ok (.ireturn, 1) := by decide +kernel
theorem dX4_cordOf_72 : decode cX4_cordOf 72 = .ok (.aload_n 3, 1) := by decide +kernel
theorem dX4_cordOf_73 : decode cX4_cordOf 73 = .ok (.invokevirtual 161, 3) := by decide +kernel
theorem dX4_cordOf_76 : decode cX4_cordOf 76 = .ok (.ireturn, 1) := by decide +kernel
theorem dX4_cordOf_77 : decode cX4_cordOf 77 = .ok (.aload_n 3, 1) := by decide +kernel
theorem dX4_cordOf_78 : decode cX4_cordOf 78 = .ok (.invokevirtual 162, 3) := by decide +kernel
theorem dX4_cordOf_81 : decode cX4_cordOf 81 = .ok (.ireturn, 1) := by decide +kernel
theorem dX4_cordOf_82 : decode cX4_cordOf 82 = .ok (.aload_n 3, 1) := by decide +kernel
theorem dX4_cordOf_83 : decode cX4_cordOf 83 = .ok (.getfield 96, 3) := by decide +kernel
theorem dX4_cordOf_86 : decode cX4_cordOf 86 = .ok (.ireturn, 1) := by decide +kernel
theorem dX4_cordOf_87 : decode cX4_cordOf 87 = .ok (.aload_n 3, 1) := by decide +kernel
theorem dX4_cordOf_88 : decode cX4_cordOf 88 = .ok (.getfield 165, 3) := by decide +kernel
theorem dX4_cordOf_91 : decode cX4_cordOf 91 = .ok (.ireturn, 1) := by decide +kernel
theorem dX4_cordOf_92 : decode cX4_cordOf 92 = .ok (.new 69, 3) := by decide +kernel
theorem dX4_cordOf_95 : decode cX4_cordOf 95 = .ok (.dup, 1) := by decide +kernel
theorem dX4_cordOf_96 : decode cX4_cordOf 96 = .ok (.ldc 168, 2) := by decide +kernel
theorem dX4_cordOf_98 : decode cX4_cordOf 98 = .ok (.invokespecial 73, 3) := by decide +kernel
theorem dX4_cordOf_101 : decode cX4_cordOf 101 = .ok (.athrow, 1) := by decide +kernel
theorem dX4_placeOf_0 : decode cX4_placeOf 0 = .ok (.aload_n 0, 1) := by decide +kernel
theorem dX4_placeOf_1 : decode cX4_placeOf 1 = .ok (.iload_n 1, 1) := by decide +kernel
theorem dX4_placeOf_2 : decode cX4_placeOf 2 = .ok (.invokevirtual 53, 3) := by decide +kernel
theorem dX4_placeOf_5 : decode cX4_placeOf 5 = .ok (.astore 4, 2) := by decide +kernel
theorem dX4_placeOf_7 : decode cX4_placeOf 7 = .ok (.iload_n 2, 1) := by decide +kernel
theorem dX4_placeOf_8 : decode cX4_placeOf 8 = .ok (.invokestatic 80, 3) := by decide +kernel
theorem dX4_placeOf_11 : decode cX4_placeOf 11 = .ok (.iload_n 3, 1) := by decide +kernel
theorem dX4_placeOf_12 : decode cX4_placeOf 12 = .ok (.tableswitch 74 0 3 #[32, 40, 48, 55], 32) := by decide +kernel
theorem dX4_placeOf_44 : decode cX4_placeOf 44 = .ok (.aload 4, 2) := by decide +kernel
theorem dX4_placeOf_46 : decode cX4_placeOf 46 = .ok (.getfield 170, 3) := by decide +kernel
theorem dX4_placeOf_49 : decode cX4_placeOf 49 = .ok (.iload_n 2, 1) := by decide +kernel
theorem dX4_placeOf_50 : decode cX4_placeOf 50 = .ok (.iaload, 1) := by decide +kernel
theorem dX4_placeOf_51 : decode cX4_placeOf 51 = .ok (.ireturn, 1) := by decide +kernel
theorem dX4_placeOf_52 : decode cX4_placeOf 52 = .ok (.aload 4, 2) := by decide +kernel
theorem dX4_placeOf_54 : decode cX4_placeOf 54 = .ok (.getfield 173, 3) := by decide +kernel
theorem dX4_placeOf_57 : decode cX4_placeOf 57 = .ok (.iload_n 2, 1) := by decide +kernel
theorem dX4_placeOf_58 : decode cX4_placeOf 58 = .ok (.iaload, 1) := by decide +kernel
theorem dX4_placeOf_59 : decode cX4_placeOf 59 = .ok (.ireturn, 1) := by decide +kernel
theorem dX4_placeOf_60 : decode cX4_placeOf 60 = .ok (.aload 4, 2) := by decide +kernel
theorem dX4_placeOf_62 : decode cX4_placeOf 62 = .ok (.iload_n 2, 1) := by decide +kernel
theorem dX4_placeOf_63 : decode cX4_placeOf 63 = .ok (.invokevirtual 176, 3) := by decide +kernel
theorem dX4_placeOf_66 : decode cX4_placeOf 66 = .ok (.ireturn, 1) := by decide +kernel
theorem dX4_placeOf_67 : decode cX4_placeOf 67 = .ok (.iconst 0, 1) := by decide +kernel
theorem dX4_placeOf_68 : decode cX4_placeOf 68 = .ok (.aload_n 0, 1) := by decide +kernel
theorem dX4_placeOf_69 : decode cX4_placeOf 69 = .ok (.getfield 10, 3) := by decide +kernel
theorem dX4_placeOf_72 : decode cX4_placeOf 72 = .ok (.getfield 101, 3) := by decide +kernel
theorem dX4_placeOf_75 : decode cX4_placeOf 75 = .ok (.aload 4, 2) := by decide +kernel
theorem dX4_placeOf_77 : decode cX4_placeOf 77 = .ok (.iload_n 2, 1) := by decide +kernel
theorem dX4_placeOf_78 : decode cX4_placeOf 78 = .ok (.invokevirtual 180, 3) := by decide +kernel
theorem dX4_placeOf_81 : decode cX4_placeOf 81 = .ok (.isub, 1) := by decide +kernel
theorem dX4_placeOf_82 : decode cX4_placeOf 82 = .ok (.invokestatic 183, 3) := by decide +kernel
theorem dX4_placeOf_85 : decode cX4_placeOf 85 = .ok (.ireturn, 1) := by decide +kernel
theorem dX4_placeOf_86 : decode cX4_placeOf 86 = .ok (.new 69, 3) := by decide +kernel
theorem dX4_placeOf_89 : decode cX4_placeOf 89 = .ok (.dup, 1) := by decide +kernel
theorem dX4_placeOf_90 : decode cX4_placeOf 90 = .ok (.ldc 189, 2) := by decide +kernel
theorem dX4_placeOf_92 : decode cX4_placeOf 92 = .ok (.invokespecial 73, 3) := by decide +kernel
theorem dX4_placeOf_95 : decode cX4_placeOf 95 = .ok (.athrow, 1) := by decide +kernel
theorem dX4_part_0 : decode cX4_part 0 = .ok (.aload_n 0, 1) := by decide +kernel
theorem dX4_part_1 : decode cX4_part 1 = .ok (.iload_n 1, 1) := by decide +kernel
theorem dX4_part_2 : decode cX4_part 2 = .ok (.invokevirtual 53, 3) := by decide +kernel
theorem dX4_part_5 : decode cX4_part 5 = .ok (.astore_n 3, 1) := by decide +kernel
theorem dX4_part_6 : decode cX4_part 6 = .ok (.iload_n 2, 1) := by decide +kernel
theorem dX4_part_7 : decode cX4_part 7 = .ok (.ifCond .ge 13, 3) := by decide +kernel
theorem dX4_part_10 : decode cX4_part 10 = .ok (.new 69, 3) := by decide +kernel
theorem dX4_part_13 : decode cX4_part 13 = .ok (.dup, 1) := by decide +kernel
theorem dX4_part_14 : decode cX4_part 14 = .ok (.ldc 191, 2) := by decide +kernel
theorem dX4_part_16 : decode cX4_part 16 = .ok (.invokespecial 73, 3) := by decide +kernel
theorem dX4_part_19 : decode cX4_part 19 = .ok (.athrow, 1) := by decide +kernel
theorem dX4_part_20 : decode cX4_part 20 = .ok (.iload_n 2, 1) := by decide +kernel
theorem dX4_part_21 : decode cX4_part 21 = .ok (.aload_n 3, 1) := by decide +kernel
theorem dX4_part_22 : decode cX4_part 22 = .ok (.getfield 155, 3) := by decide +kernel
theorem dX4_part_25 : decode cX4_part 25 = .ok (.if_icmp .ge 12, 3) := by decide +kernel
theorem dX4_part_28 : decode cX4_part 28 = .ok (.aload_n 3, 1) := by decide +kernel
theorem dX4_part_29 : decode cX4_part 29 = .ok (.getfield 193, 3) := by decide +kernel
theorem dX4_part_32 : decode cX4_part 32 = .ok (.iload_n 2, 1) := by decide +kernel
theorem dX4_part_33 : decode cX4_part 33 = .ok (.iaload, 1) := by decide +kernel
theorem dX4_part_34 : decode cX4_part 34 = .ok (.goto 4, 3) := by decide +kernel
theorem dX4_part_37 : decode cX4_part 37 = .ok (.iconst (-1), 1) := by decide +kernel
theorem dX4_part_38 : decode cX4_part 38 = .ok (.ireturn, 1) := by decide +kernel
theorem dX4_count_0 : decode cX4_count 0 = .ok (.iload_n 1, 1) := by decide +kernel
theorem dX4_count_1 : decode cX4_count 1 = .ok (.tableswitch 135 0 9 #[55, 63, 71, 79, 87, 95, 103, 111, 119, 127], 55) := by decide +kernel
theorem dX4_count_56 : decode cX4_count 56 = .ok (.aload_n 0, 1) := by decide +kernel
theorem dX4_count_57 : decode cX4_count 57 = .ok (.getfield 10, 3) := by decide +kernel
theorem dX4_count_60 : decode cX4_count 60 = .ok (.invokevirtual 196, 3) := by decide +kernel
theorem dX4_count_63 : decode cX4_count 63 = .ok (.ireturn, 1) := by decide +kernel
theorem dX4_count_64 : decode cX4_count 64 = .ok (.aload_n 0, 1) := by decide +kernel
theorem dX4_count_65 : decode cX4_count 65 = .ok (.getfield 10, 3) := by decide +kernel
theorem dX4_count_68 : decode cX4_count 68 = .ok (.invokevirtual 137, 3) := by decide +kernel
theorem dX4_count_71 : decode cX4_count 71 = .ok (.ireturn, 1) := by decide +kernel
theorem dX4_count_72 : decode cX4_count 72 = .ok (.aload_n 0, 1) := by decide +kernel
theorem dX4_count_73 : decode cX4_count 73 = .ok (.getfield 10, 3) := by decide +kernel
theorem dX4_count_76 : decode cX4_count 76 = .ok (.getfield 197, 3) := by decide +kernel
theorem dX4_count_79 : decode cX4_count 79 = .ok (.ireturn, 1) := by decide +kernel
theorem dX4_count_80 : decode cX4_count 80 = .ok (.aload_n 0, 1) := by decide +kernel
theorem dX4_count_81 : decode cX4_count 81 = .ok (.getfield 10, 3) := by decide +kernel
theorem dX4_count_84 : decode cX4_count 84 = .ok (.getfield 200, 3) := by decide +kernel
theorem dX4_count_87 : decode cX4_count 87 = .ok (.ireturn, 1) := by decide +kernel
theorem dX4_count_88 : decode cX4_count 88 = .ok (.aload_n 0, 1) := by decide +kernel
theorem dX4_count_89 : decode cX4_count 89 = .ok (.getfield 10, 3) := by decide +kernel
theorem dX4_count_92 : decode cX4_count 92 = .ok (.getfield 203, 3) := by decide +kernel
theorem dX4_count_95 : decode cX4_count 95 = .ok (.ireturn, 1) := by decide +kernel
theorem dX4_count_96 : decode cX4_count 96 = .ok (.aload_n 0, 1) := by decide +kernel
theorem dX4_count_97 : decode cX4_count 97 = .ok (.getfield 10, 3) := by decide +kernel
theorem dX4_count_100 : decode cX4_count 100 = .ok (.getfield 204, 3) := by decide +kernel
theorem dX4_count_103 : decode cX4_count 103 = .ok (.ireturn, 1) := by decide +kernel
theorem dX4_count_104 : decode cX4_count 104 = .ok (.aload_n 0, 1) := by decide +kernel
theorem dX4_count_105 : decode cX4_count 105 = .ok (.getfield 10, 3) := by decide +kernel
theorem dX4_count_108 : decode cX4_count 108 = .ok (.getfield 207, 3) := by decide +kernel
theorem dX4_count_111 : decode cX4_count 111 = .ok (.ireturn, 1) := by decide +kernel
theorem dX4_count_112 : decode cX4_count 112 = .ok (.aload_n 0, 1) := by decide +kernel
theorem dX4_count_113 : decode cX4_count 113 = .ok (.getfield 10, 3) := by decide +kernel
theorem dX4_count_116 : decode cX4_count 116 = .ok (.invokevirtual 210, 3) := by decide +kernel
theorem dX4_count_119 : decode cX4_count 119 = .ok (.ireturn, 1) := by decide +kernel
theorem dX4_count_120 : decode cX4_count 120 = .ok (.aload_n 0, 1) := by decide +kernel
theorem dX4_count_121 : decode cX4_count 121 = .ok (.getfield 10, 3) := by decide +kernel
theorem dX4_count_124 : decode cX4_count 124 = .ok (.getfield 101, 3) := by decide +kernel
theorem dX4_count_127 : decode cX4_count 127 = .ok (.ireturn, 1) := by decide +kernel
theorem dX4_count_128 : decode cX4_count 128 = .ok (.aload_n 0, 1) := by decide +kernel
theorem dX4_count_129 : decode cX4_count 129 = .ok (.getfield 19, 3) := by decide +kernel
theorem dX4_count_132 : decode cX4_count 132 = .ok (.getfield 142, 3) := by decide +kernel
theorem dX4_count_135 : decode cX4_count 135 = .ok (.ireturn, 1) := by decide +kernel
theorem dX4_count_136 : decode cX4_count 136 = .ok (.new 69, 3) := by decide +kernel
theorem dX4_count_139 : decode cX4_count 139 = .ok (.dup, 1) := by decide +kernel
theorem dX4_count_140 : decode cX4_count 140 = .ok (.ldc 213, 2) := by decide +kernel
theorem dX4_count_142 : decode cX4_count 142 = .ok (.invokespecial 73, 3) := by decide +kernel
theorem dX4_count_145 : decode cX4_count 145 = .ok (.athrow, 1) := by decide +kernel
theorem dX4_byHue_0 : decode cX4_byHue 0 = .ok (.iload_n 1, 1) := by decide +kernel
theorem dX4_byHue_1 : decode cX4_byHue 1 = .ok (.invokestatic 93, 3) := by decide +kernel
theorem dX4_byHue_4 : decode cX4_byHue 4 = .ok (.aload_n 0, 1) := by decide +kernel
theorem dX4_byHue_5 : decode cX4_byHue 5 = .ok (.getfield 10, 3) := by decide +kernel
theorem dX4_byHue_8 : decode cX4_byHue 8 = .ok (.iload_n 1, 1) := by decide +kernel
theorem dX4_byHue_9 : decode cX4_byHue 9 = .ok (.invokevirtual 215, 3) := by decide +kernel
theorem dX4_byHue_12 : decode cX4_byHue 12 = .ok (.ireturn, 1) := by decide +kernel
theorem dX4_whyNot_0 : decode cX4_whyNot 0 = .ok (.aload_n 0, 1) := by decide +kernel
theorem dX4_whyNot_1 : decode cX4_whyNot 1 = .ok (.iload_n 1, 1) := by decide +kernel
theorem dX4_whyNot_2 : decode cX4_whyNot 2 = .ok (.invokevirtual 53, 3) := by decide +kernel
theorem dX4_whyNot_5 : decode cX4_whyNot 5 = .ok (.astore_n 3, 1) := by decide +kernel
theorem dX4_whyNot_6 : decode cX4_whyNot 6 = .ok (.iload_n 2, 1) := by decide +kernel
theorem dX4_whyNot_7 : decode cX4_whyNot 7 = .ok (.invokestatic 57, 3) := by decide +kernel
theorem dX4_whyNot_10 : decode cX4_whyNot 10 = .ok (.aload_n 3, 1) := by decide +kernel
theorem dX4_whyNot_11 : decode cX4_whyNot 11 = .ok (.iload_n 2, 1) := by decide +kernel
theorem dX4_whyNot_12 : decode cX4_whyNot 12 = .ok (.aload_n 0, 1) := by decide +kernel
theorem dX4_whyNot_13 : decode cX4_whyNot 13 = .ok (.getfield 10, 3) := by decide +kernel
theorem dX4_whyNot_16 : decode cX4_whyNot 16 = .ok (.getfield 101, 3) := by decide +kernel
theorem dX4_whyNot_19 : decode cX4_whyNot 19 = .ok (.invokevirtual 218, 3) := by decide +kernel
theorem dX4_whyNot_22 : decode cX4_whyNot 22 = .ok (.ireturn, 1) := by decide +kernel
theorem dX4_howOften_0 : decode cX4_howOften 0 = .ok (.aload_n 0, 1) := by decide +kernel
theorem dX4_howOften_1 : decode cX4_howOften 1 = .ok (.iload_n 1, 1) := by decide +kernel
theorem dX4_howOften_2 : decode cX4_howOften 2 = .ok (.invokevirtual 53, 3) := by decide +kernel
theorem dX4_howOften_5 : decode cX4_howOften 5 = .ok (.astore_n 3, 1) := by decide +kernel
theorem dX4_howOften_6 : decode cX4_howOften 6 = .ok (.iload_n 2, 1) := by decide +kernel
theorem dX4_howOften_7 : decode cX4_howOften 7 = .ok (.invokestatic 57, 3) := by decide +kernel
theorem dX4_howOften_10 : decode cX4_howOften 10 = .ok (.aload_n 0, 1) := by decide +kernel
theorem dX4_howOften_11 : decode cX4_howOften 11 = .ok (.getfield 45, 3) := by decide +kernel
theorem dX4_howOften_14 : decode cX4_howOften 14 = .ok (.aload_n 3, 1) := by decide +kernel
theorem dX4_howOften_15 : decode cX4_howOften 15 = .ok (.invokevirtual 221, 3) := by decide +kernel
theorem dX4_howOften_18 : decode cX4_howOften 18 = .ok (.iconst 0, 1) := by decide +kernel
theorem dX4_howOften_19 : decode cX4_howOften 19 = .ok (.istore 4, 2) := by decide +kernel
theorem dX4_howOften_21 : decode cX4_howOften 21 = .ok (.iload 4, 2) := by decide +kernel
theorem dX4_howOften_23 : decode cX4_howOften 23 = .ok (.bipush 16, 2) := by decide +kernel
theorem dX4_howOften_25 : decode cX4_howOften 25 = .ok (.if_icmp .ge 35, 3) := by decide +kernel
theorem dX4_howOften_28 : decode cX4_howOften 28 = .ok (.aload_n 0, 1) := by decide +kernel
theorem dX4_howOften_29 : decode cX4_howOften 29 = .ok (.getfield 45, 3) := by decide +kernel
theorem dX4_howOften_32 : decode cX4_howOften 32 = .ok (.iload_n 2, 1) := by decide +kernel
theorem dX4_howOften_33 : decode cX4_howOften 33 = .ok (.aload_n 0, 1) := by decide +kernel
theorem dX4_howOften_34 : decode cX4_howOften 34 = .ok (.getfield 10, 3) := by decide +kernel
theorem dX4_howOften_37 : decode cX4_howOften 37 = .ok (.getfield 101, 3) := by decide +kernel
theorem dX4_howOften_40 : decode cX4_howOften 40 = .ok (.invokevirtual 218, 3) := by decide +kernel
theorem dX4_howOften_43 : decode cX4_howOften 43 = .ok (.ifCond .ne 17, 3) := by decide +kernel
theorem dX4_howOften_46 : decode cX4_howOften 46 = .ok (.aload_n 0, 1) := by decide +kernel
theorem dX4_howOften_47 : decode cX4_howOften 47 = .ok (.getfield 45, 3) := by decide +kernel
theorem dX4_howOften_50 : decode cX4_howOften 50 = .ok (.iload_n 2, 1) := by decide +kernel
theorem dX4_howOften_51 : decode cX4_howOften 51 = .ok (.invokevirtual 224, 3) := by decide +kernel
theorem dX4_howOften_54 : decode cX4_howOften 54 = .ok (.iinc 4 1, 3) := by decide +kernel
theorem dX4_howOften_57 : decode cX4_howOften 57 = .ok (.goto (-36), 3) := by decide +kernel
theorem dX4_howOften_60 : decode cX4_howOften 60 = .ok (.iload 4, 2) := by decide +kernel
theorem dX4_howOften_62 : decode cX4_howOften 62 = .ok (.ireturn, 1) := by decide +kernel
theorem dX4_cordsFor_0 : decode cX4_cordsFor 0 = .ok (.iload_n 1, 1) := by decide +kernel
theorem dX4_cordsFor_1 : decode cX4_cordsFor 1 = .ok (.iconst 1, 1) := by decide +kernel
theorem dX4_cordsFor_2 : decode cX4_cordsFor 2 = .ok (.if_icmp .lt 9, 3) := by decide +kernel
theorem dX4_cordsFor_5 : decode cX4_cordsFor 5 = .ok (.iload_n 1, 1) := by decide +kernel
theorem dX4_cordsFor_6 : decode cX4_cordsFor 6 = .ok (.ldc 227, 2) := by decide +kernel
theorem dX4_cordsFor_8 : decode cX4_cordsFor 8 = .ok (.if_icmp .le 13, 3) := by decide +kernel
theorem dX4_cordsFor_11 : decode cX4_cordsFor 11 = .ok (.new 69, 3) := by decide +kernel
theorem dX4_cordsFor_14 : decode cX4_cordsFor 14 = .ok (.dup, 1) := by decide +kernel
theorem dX4_cordsFor_15 : decode cX4_cordsFor 15 = .ok (.ldc 228, 2) := by decide +kernel
theorem dX4_cordsFor_17 : decode cX4_cordsFor 17 = .ok (.invokespecial 73, 3) := by decide +kernel
theorem dX4_cordsFor_20 : decode cX4_cordsFor 20 = .ok (.athrow, 1) := by decide +kernel
theorem dX4_cordsFor_21 : decode cX4_cordsFor 21 = .ok (.iload_n 2, 1) := by decide +kernel
theorem dX4_cordsFor_22 : decode cX4_cordsFor 22 = .ok (.ifCond .eq 18, 3) := by decide +kernel
theorem dX4_cordsFor_25 : decode cX4_cordsFor 25 = .ok (.iload_n 2, 1) := by decide +kernel
theorem dX4_cordsFor_26 : decode cX4_cordsFor 26 = .ok (.iconst 1, 1) := by decide +kernel
theorem dX4_cordsFor_27 : decode cX4_cordsFor 27 = .ok (.if_icmp .eq 13, 3) := by decide +kernel
theorem dX4_cordsFor_30 : decode cX4_cordsFor 30 = .ok (.new 69, 3) := by decide +kernel
theorem dX4_cordsFor_33 : decode cX4_cordsFor 33 = .ok (.dup, 1) := by decide +kernel
theorem dX4_cordsFor_34 : decode cX4_cordsFor 34 = .ok (.ldc 230, 2) := by decide +kernel
theorem dX4_cordsFor_36 : decode cX4_cordsFor 36 = .ok (.invokespecial 73, 3) := by decide +kernel
theorem dX4_cordsFor_39 : decode cX4_cordsFor 39 = .ok (.athrow, 1) := by decide +kernel
theorem dX4_cordsFor_40 : decode cX4_cordsFor 40 = .ok (.aload_n 0, 1) := by decide +kernel
theorem dX4_cordsFor_41 : decode cX4_cordsFor 41 = .ok (.getfield 10, 3) := by decide +kernel
theorem dX4_cordsFor_44 : decode cX4_cordsFor 44 = .ok (.aload_n 0, 1) := by decide +kernel
theorem dX4_cordsFor_45 : decode cX4_cordsFor 45 = .ok (.getfield 49, 3) := by decide +kernel
theorem dX4_cordsFor_48 : decode cX4_cordsFor 48 = .ok (.invokevirtual 232, 3) := by decide +kernel
theorem dX4_cordsFor_51 : decode cX4_cordsFor 51 = .ok (.iload_n 2, 1) := by decide +kernel
theorem dX4_cordsFor_52 : decode cX4_cordsFor 52 = .ok (.ifCond .ne 14, 3) := by decide +kernel
theorem dX4_cordsFor_55 : decode cX4_cordsFor 55 = .ok (.aload_n 0, 1) := by decide +kernel
theorem dX4_cordsFor_56 : decode cX4_cordsFor 56 = .ok (.getfield 49, 3) := by decide +kernel
theorem dX4_cordsFor_59 : decode cX4_cordsFor 59 = .ok (.iload_n 1, 1) := by decide +kernel
theorem dX4_cordsFor_60 : decode cX4_cordsFor 60 = .ok (.invokestatic 236, 3) := by decide +kernel
theorem dX4_cordsFor_63 : decode cX4_cordsFor 63 = .ok (.goto 14, 3) := by decide +kernel
theorem dX4_cordsFor_66 : decode cX4_cordsFor 66 = .ok (.aload_n 0, 1) := by decide +kernel
theorem dX4_cordsFor_67 : decode cX4_cordsFor 67 = .ok (.getfield 49, 3) := by decide +kernel
theorem dX4_cordsFor_70 : decode cX4_cordsFor 70 = .ok (.iconst 0, 1) := by decide +kernel
theorem dX4_cordsFor_71 : decode cX4_cordsFor 71 = .ok (.iload_n 1, 1) := by decide +kernel
theorem dX4_cordsFor_72 : decode cX4_cordsFor 72 = .ok (.iconst 0, 1) := by decide +kernel
theorem dX4_cordsFor_73 : decode cX4_cordsFor 73 = .ok (.iconst (-1), 1) := by decide +kernel
theorem dX4_cordsFor_74 : decode cX4_cordsFor 74 = .ok (.invokestatic 240, 3) := by decide +kernel
theorem dX4_cordsFor_77 : decode cX4_cordsFor 77 = .ok (.ireturn, 1) := by decide +kernel
theorem dX4_fullest_0 : decode cX4_fullest 0 = .ok (.aload_n 0, 1) := by decide +kernel
theorem dX4_fullest_1 : decode cX4_fullest 1 = .ok (.getfield 10, 3) := by decide +kernel
theorem dX4_fullest_4 : decode cX4_fullest 4 = .ok (.invokevirtual 244, 3) := by decide +kernel
theorem dX4_fullest_7 : decode cX4_fullest 7 = .ok (.ireturn, 1) := by decide +kernel
theorem dX4_closedShare_0 : decode cX4_closedShare 0 = .ok (.aload_n 0, 1) := by decide +kernel
theorem dX4_closedShare_1 : decode cX4_closedShare 1 = .ok (.getfield 10, 3) := by decide +kernel
theorem dX4_closedShare_4 : decode cX4_closedShare 4 = .ok (.invokevirtual 247, 3) := by decide +kernel
theorem dX4_closedShare_7 : decode cX4_closedShare 7 = .ok (.istore_n 1, 1) := by decide +kernel
theorem dX4_closedShare_8 : decode cX4_closedShare 8 = .ok (.iload_n 1, 1) := by decide +kernel
theorem dX4_closedShare_9 : decode cX4_closedShare 9 = .ok (.ifCond .ne 7, 3) := by decide +kernel
theorem dX4_closedShare_12 : decode cX4_closedShare 12 = .ok (.dconst 0, 1) := by decide +kernel
theorem dX4_closedShare_13 : decode cX4_closedShare 13 = .ok (.goto 17, 3) := by decide +kernel
theorem dX4_closedShare_16 : decode cX4_closedShare 16 = .ok (.bipush 10, 2) := by decide +kernel
theorem dX4_closedShare_18 : decode cX4_closedShare 18 = .ok (.aload_n 0, 1) := by decide +kernel
theorem dX4_closedShare_19 : decode cX4_closedShare 19 = .ok (.getfield 10, 3) := by decide +kernel
theorem dX4_closedShare_22 : decode cX4_closedShare 22 = .ok (.invokevirtual 249, 3) := by decide +kernel
theorem dX4_closedShare_25 : decode cX4_closedShare 25 = .ok (.imul, 1) := by decide +kernel
theorem dX4_closedShare_26 : decode cX4_closedShare 26 = .ok (.i2d, 1) := by decide +kernel
theorem dX4_closedShare_27 : decode cX4_closedShare 27 = .ok (.iload_n 1, 1) := by decide +kernel
theorem dX4_closedShare_28 : decode cX4_closedShare 28 = .ok (.i2d, 1) := by decide +kernel
theorem dX4_closedShare_29 : decode cX4_closedShare 29 = .ok (.ddiv, 1) := by decide +kernel
theorem dX4_closedShare_30 : decode cX4_closedShare 30 = .ok (.dreturn, 1) := by decide +kernel
theorem dX4_digest_0 : decode cX4_digest 0 = .ok (.ldc2_w 251, 3) := by decide +kernel
theorem dX4_digest_3 : decode cX4_digest 3 = .ok (.lstore_n 1, 1) := by decide +kernel
theorem dX4_digest_4 : decode cX4_digest 4 = .ok (.iconst 0, 1) := by decide +kernel
theorem dX4_digest_5 : decode cX4_digest 5 = .ok (.istore_n 3, 1) := by decide +kernel
theorem dX4_digest_6 : decode cX4_digest 6 = .ok (.iload_n 3, 1) := by decide +kernel
theorem dX4_digest_7 : decode cX4_digest 7 = .ok (.bipush 9, 2) := by decide +kernel
theorem dX4_digest_9 : decode cX4_digest 9 = .ok (.if_icmp .gt 20, 3) := by decide +kernel
theorem dX4_digest_12 : decode cX4_digest 12 = .ok (.lload_n 1, 1) := by decide +kernel
theorem dX4_digest_13 : decode cX4_digest 13 = .ok (.aload_n 0, 1) := by decide +kernel
theorem dX4_digest_14 : decode cX4_digest 14 = .ok (.iload_n 3, 1) := by decide +kernel
theorem dX4_digest_15 : decode cX4_digest 15 = .ok (.invokevirtual 253, 3) := by decide +kernel
theorem dX4_digest_18 : decode cX4_digest 18 = .ok (.i2l, 1) := by decide +kernel
theorem dX4_digest_19 : decode cX4_digest 19 = .ok (.invokestatic 256, 3) := by decide +kernel
theorem dX4_digest_22 : decode cX4_digest 22 = .ok (.lstore_n 1, 1) := by decide +kernel
theorem dX4_digest_23 : decode cX4_digest 23 = .ok (.iinc 3 1, 3) := by decide +kernel
theorem dX4_digest_26 : decode cX4_digest 26 = .ok (.goto (-20), 3) := by decide +kernel
theorem dX4_digest_29 : decode cX4_digest 29 = .ok (.iconst 0, 1) := by decide +kernel
theorem dX4_digest_30 : decode cX4_digest 30 = .ok (.istore_n 3, 1) := by decide +kernel
theorem dX4_digest_31 : decode cX4_digest 31 = .ok (.iload_n 3, 1) := by decide +kernel
theorem dX4_digest_32 : decode cX4_digest 32 = .ok (.bipush 7, 2) := by decide +kernel
theorem dX4_digest_34 : decode cX4_digest 34 = .ok (.if_icmp .ge 16, 3) := by decide +kernel
theorem dX4_digest_37 : decode cX4_digest 37 = .ok (.aload_n 0, 1) := by decide +kernel
theorem dX4_digest_38 : decode cX4_digest 38 = .ok (.lload_n 1, 1) := by decide +kernel
theorem dX4_digest_39 : decode cX4_digest 39 = .ok (.iload_n 3, 1) := by decide +kernel
theorem dX4_digest_40 : decode cX4_digest 40 = .ok (.invokevirtual 260, 3) := by decide +kernel
theorem dX4_digest_43 : decode cX4_digest 43 = .ok (.lstore_n 1, 1) := by decide +kernel
theorem dX4_digest_44 : decode cX4_digest 44 = .ok (.iinc 3 1, 3) := by decide +kernel
theorem dX4_digest_47 : decode cX4_digest 47 = .ok (.goto (-16), 3) := by decide +kernel
theorem dX4_digest_50 : decode cX4_digest 50 = .ok (.iconst 0, 1) := by decide +kernel
theorem dX4_digest_51 : decode cX4_digest 51 = .ok (.istore_n 3, 1) := by decide +kernel
theorem dX4_digest_52 : decode cX4_digest 52 = .ok (.iload_n 3, 1) := by decide +kernel
theorem dX4_digest_53 : decode cX4_digest 53 = .ok (.bipush 6, 2) := by decide +kernel
theorem dX4_digest_55 : decode cX4_digest 55 = .ok (.if_icmp .ge 20, 3) := by decide +kernel
theorem dX4_digest_58 : decode cX4_digest 58 = .ok (.lload_n 1, 1) := by decide +kernel
theorem dX4_digest_59 : decode cX4_digest 59 = .ok (.aload_n 0, 1) := by decide +kernel
theorem dX4_digest_60 : decode cX4_digest 60 = .ok (.iload_n 3, 1) := by decide +kernel
theorem dX4_digest_61 : decode cX4_digest 61 = .ok (.invokevirtual 264, 3) := by decide +kernel
theorem dX4_digest_64 : decode cX4_digest 64 = .ok (.i2l, 1) := by decide +kernel
theorem dX4_digest_65 : decode cX4_digest 65 = .ok (.invokestatic 256, 3) := by decide +kernel
theorem dX4_digest_68 : decode cX4_digest 68 = .ok (.lstore_n 1, 1) := by decide +kernel
theorem dX4_digest_69 : decode cX4_digest 69 = .ok (.iinc 3 1, 3) := by decide +kernel
theorem dX4_digest_72 : decode cX4_digest 72 = .ok (.goto (-20), 3) := by decide +kernel
theorem dX4_digest_75 : decode cX4_digest 75 = .ok (.lload_n 1, 1) := by decide +kernel
theorem dX4_digest_76 : decode cX4_digest 76 = .ok (.aload_n 0, 1) := by decide +kernel
theorem dX4_digest_77 : decode cX4_digest 77 = .ok (.bipush 95, 2) := by decide +kernel
theorem dX4_digest_79 : decode cX4_digest 79 = .ok (.iconst 0, 1) := by decide +kernel
theorem dX4_digest_80 : decode cX4_digest 80 = .ok (.invokevirtual 267, 3) := by decide +kernel
theorem dX4_digest_83 : decode cX4_digest 83 = .ok (.i2l, 1) := by decide +kernel
theorem dX4_digest_84 : decode cX4_digest 84 = .ok (.invokestatic 256, 3) := by decide +kernel
theorem dX4_digest_87 : decode cX4_digest 87 = .ok (.lstore_n 1, 1) := by decide +kernel
theorem dX4_digest_88 : decode cX4_digest 88 = .ok (.lload_n 1, 1) := by decide +kernel
theorem dX4_digest_89 : decode cX4_digest 89 = .ok (.aload_n 0, 1) := by decide +kernel
theorem dX4_digest_90 : decode cX4_digest 90 = .ok (.bipush 95, 2) := by decide +kernel
theorem dX4_digest_92 : decode cX4_digest 92 = .ok (.iconst 1, 1) := by decide +kernel
theorem dX4_digest_93 : decode cX4_digest 93 = .ok (.invokevirtual 267, 3) := by decide +kernel
theorem dX4_digest_96 : decode cX4_digest 96 = .ok (.i2l, 1) := by decide +kernel
theorem dX4_digest_97 : decode cX4_digest 97 = .ok (.invokestatic 256, 3) := by decide +kernel
theorem dX4_digest_100 : decode cX4_digest 100 = .ok (.lstore_n 1, 1) := by decide +kernel
theorem dX4_digest_101 : decode cX4_digest 101 = .ok (.lload_n 1, 1) := by decide +kernel
theorem dX4_digest_102 : decode cX4_digest 102 = .ok (.aload_n 0, 1) := by decide +kernel
theorem dX4_digest_103 : decode cX4_digest 103 = .ok (.sipush 1234, 3) := by decide +kernel
theorem dX4_digest_106 : decode cX4_digest 106 = .ok (.iconst 0, 1) := by decide +kernel
theorem dX4_digest_107 : decode cX4_digest 107 = .ok (.invokevirtual 267, 3) := by decide +kernel
theorem dX4_digest_110 : decode cX4_digest 110 = .ok (.i2l, 1) := by decide +kernel
theorem dX4_digest_111 : decode cX4_digest 111 = .ok (.invokestatic 256, 3) := by decide +kernel
theorem dX4_digest_114 : decode cX4_digest 114 = .ok (.lstore_n 1, 1) := by decide +kernel
theorem dX4_digest_115 : decode cX4_digest 115 = .ok (.lload_n 1, 1) := by decide +kernel
theorem dX4_digest_116 : decode cX4_digest 116 = .ok (.aload_n 0, 1) := by decide +kernel
theorem dX4_digest_117 : decode cX4_digest 117 = .ok (.sipush 1234, 3) := by decide +kernel
theorem dX4_digest_120 : decode cX4_digest 120 = .ok (.iconst 1, 1) := by decide +kernel
theorem dX4_digest_121 : decode cX4_digest 121 = .ok (.invokevirtual 267, 3) := by decide +kernel
theorem dX4_digest_124 : decode cX4_digest 124 = .ok (.i2l, 1) := by decide +kernel
theorem dX4_digest_125 : decode cX4_digest 125 = .ok (.invokestatic 256, 3) := by decide +kernel
theorem dX4_digest_128 : decode cX4_digest 128 = .ok (.lstore_n 1, 1) := by decide +kernel
theorem dX4_digest_129 : decode cX4_digest 129 = .ok (.lload_n 1, 1) := by decide +kernel
theorem dX4_digest_130 : decode cX4_digest 130 = .ok (.aload_n 0, 1) := by decide +kernel
theorem dX4_digest_131 : decode cX4_digest 131 = .ok (.invokevirtual 270, 3) := by decide +kernel
theorem dX4_digest_134 : decode cX4_digest 134 = .ok (.i2l, 1) := by decide +kernel
theorem dX4_digest_135 : decode cX4_digest 135 = .ok (.invokestatic 256, 3) := by decide +kernel
theorem dX4_digest_138 : decode cX4_digest 138 = .ok (.lstore_n 1, 1) := by decide +kernel
theorem dX4_digest_139 : decode cX4_digest 139 = .ok (.lload_n 1, 1) := by decide +kernel
theorem dX4_digest_140 : decode cX4_digest 140 = .ok (.aload_n 0, 1) := by decide +kernel
theorem dX4_digest_141 : decode cX4_digest 141 = .ok (.invokevirtual 273, 3) := by decide +kernel
theorem dX4_digest_144 : decode cX4_digest 144 = .ok (.invokestatic 277, 3) := by decide +kernel
theorem dX4_digest_147 : decode cX4_digest 147 = .ok (.invokestatic 256, 3) := by decide +kernel
theorem dX4_digest_150 : decode cX4_digest 150 = .ok (.lstore_n 1, 1) := by decide +kernel
theorem dX4_digest_151 : decode cX4_digest 151 = .ok (.iconst 0, 1) := by decide +kernel
theorem dX4_digest_152 : decode cX4_digest 152 = .ok (.istore_n 3, 1) := by decide +kernel
theorem dX4_digest_153 : decode cX4_digest 153 = .ok (.iload_n 3, 1) := by decide +kernel
theorem dX4_digest_154 : decode cX4_digest 154 = .ok (.iconst 2, 1) := by decide +kernel
theorem dX4_digest_155 : decode cX4_digest 155 = .ok (.if_icmp .ge 28, 3) := by decide +kernel
theorem dX4_digest_158 : decode cX4_digest 158 = .ok (.lload_n 1, 1) := by decide +kernel
theorem dX4_digest_159 : decode cX4_digest 159 = .ok (.aload_n 0, 1) := by decide +kernel
theorem dX4_digest_160 : decode cX4_digest 160 = .ok (.getfield 23, 3) := by decide +kernel
theorem dX4_digest_163 : decode cX4_digest 163 = .ok (.iload_n 3, 1) := by decide +kernel
theorem dX4_digest_164 : decode cX4_digest 164 = .ok (.aaload, 1) := by decide +kernel
theorem dX4_digest_165 : decode cX4_digest 165 = .ok (.ifnonnull 7, 3) := by decide +kernel
theorem dX4_digest_168 : decode cX4_digest 168 = .ok (.lconst 0, 1) := by decide +kernel
theorem dX4_digest_169 : decode cX4_digest 169 = .ok (.goto 4, 3) := by decide +kernel
theorem dX4_digest_172 : decode cX4_digest 172 = .ok (.lconst 1, 1) := by decide +kernel
theorem dX4_digest_173 : decode cX4_digest 173 = .ok (.invokestatic 256, 3) := by decide +kernel
theorem dX4_digest_176 : decode cX4_digest 176 = .ok (.lstore_n 1, 1) := by decide +kernel
theorem dX4_digest_177 : decode cX4_digest 177 = .ok (.iinc 3 1, 3) := by decide +kernel
theorem dX4_digest_180 : decode cX4_digest 180 = .ok (.goto (-27), 3) := by decide +kernel
theorem dX4_digest_183 : decode cX4_digest 183 = .ok (.lload_n 1, 1) := by decide +kernel
theorem dX4_digest_184 : decode cX4_digest 184 = .ok (.aload_n 0, 1) := by decide +kernel
theorem dX4_digest_185 : decode cX4_digest 185 = .ok (.getfield 31, 3) := by decide +kernel
theorem dX4_digest_188 : decode cX4_digest 188 = .ok (.i2l, 1) := by decide +kernel
theorem dX4_digest_189 : decode cX4_digest 189 = .ok (.invokestatic 256, 3) := by decide +kernel
theorem dX4_digest_192 : decode cX4_digest 192 = .ok (.lstore_n 1, 1) := by decide +kernel
theorem dX4_digest_193 : decode cX4_digest 193 = .ok (.iconst 0, 1) := by decide +kernel
theorem dX4_digest_194 : decode cX4_digest 194 = .ok (.istore_n 3, 1) := by decide +kernel
theorem dX4_digest_195 : decode cX4_digest 195 = .ok (.iload_n 3, 1) := by decide +kernel
theorem dX4_digest_196 : decode cX4_digest 196 = .ok (.aload_n 0, 1) := by decide +kernel
theorem dX4_digest_197 : decode cX4_digest 197 = .ok (.getfield 31, 3) := by decide +kernel
theorem dX4_digest_200 : decode cX4_digest 200 = .ok (.if_icmp .ge 21, 3) := by decide +kernel
theorem dX4_digest_203 : decode cX4_digest 203 = .ok (.lload_n 1, 1) := by decide +kernel
theorem dX4_digest_204 : decode cX4_digest 204 = .ok (.aload_n 0, 1) := by decide +kernel
theorem dX4_digest_205 : decode cX4_digest 205 = .ok (.getfield 27, 3) := by decide +kernel
theorem dX4_digest_208 : decode cX4_digest 208 = .ok (.iload_n 3, 1) := by decide +kernel
theorem dX4_digest_209 : decode cX4_digest 209 = .ok (.caload, 1) := by decide +kernel
theorem dX4_digest_210 : decode cX4_digest 210 = .ok (.i2l, 1) := by decide +kernel
theorem dX4_digest_211 : decode cX4_digest 211 = .ok (.invokestatic 256, 3) := by decide +kernel
theorem dX4_digest_214 : decode cX4_digest 214 = .ok (.lstore_n 1, 1) := by decide +kernel
theorem dX4_digest_215 : decode cX4_digest 215 = .ok (.iinc 3 1, 3) := by decide +kernel
theorem dX4_digest_218 : decode cX4_digest 218 = .ok (.goto (-23), 3) := by decide +kernel
theorem dX4_digest_221 : decode cX4_digest 221 = .ok (.lload_n 1, 1) := by decide +kernel
theorem dX4_digest_222 : decode cX4_digest 222 = .ok (.lreturn, 1) := by decide +kernel
theorem dX4_cordAt_0 : decode cX4_cordAt 0 = .ok (.iload_n 1, 1) := by decide +kernel
theorem dX4_cordAt_1 : decode cX4_cordAt 1 = .ok (.ifCond .lt 9, 3) := by decide +kernel
theorem dX4_cordAt_4 : decode cX4_cordAt 4 = .ok (.iload_n 1, 1) := by decide +kernel
theorem dX4_cordAt_5 : decode cX4_cordAt 5 = .ok (.bipush 7, 2) := by decide +kernel
theorem dX4_cordAt_7 : decode cX4_cordAt 7 = .ok (.if_icmp .lt 14, 3) := by decide +kernel
theorem dX4_cordAt_10 : decode cX4_cordAt 10 = .ok (.new 281, 3) := by decide +kernel
theorem dX4_cordAt_13 : decode cX4_cordAt 13 = .ok (.dup, 1) := by decide +kernel
theorem dX4_cordAt_14 : decode cX4_cordAt 14 = .ok (.ldc_w 283, 3) := by decide +kernel
theorem dX4_cordAt_17 : decode cX4_cordAt 17 = .ok (.invokespecial 285, 3) := by decide +kernel
theorem dX4_cordAt_20 : decode cX4_cordAt 20 = .ok (.athrow, 1) := by decide +kernel
theorem dX4_cordAt_21 : decode cX4_cordAt 21 = .ok (.aload_n 0, 1) := by decide +kernel
theorem dX4_cordAt_22 : decode cX4_cordAt 22 = .ok (.getfield 10, 3) := by decide +kernel
theorem dX4_cordAt_25 : decode cX4_cordAt 25 = .ok (.getfield 286, 3) := by decide +kernel
theorem dX4_cordAt_28 : decode cX4_cordAt 28 = .ok (.iload_n 1, 1) := by decide +kernel
theorem dX4_cordAt_29 : decode cX4_cordAt 29 = .ok (.aaload, 1) := by decide +kernel
theorem dX4_cordAt_30 : decode cX4_cordAt 30 = .ok (.areturn, 1) := by decide +kernel
theorem dX4_checkPlace_0 : decode cX4_checkPlace 0 = .ok (.iload_n 0, 1) := by decide +kernel
theorem dX4_checkPlace_1 : decode cX4_checkPlace 1 = .ok (.ifCond .lt 9, 3) := by decide +kernel
theorem dX4_checkPlace_4 : decode cX4_checkPlace 4 = .ok (.iload_n 0, 1) := by decide +kernel
theorem dX4_checkPlace_5 : decode cX4_checkPlace 5 = .ok (.bipush 6, 2) := by decide +kernel
theorem dX4_checkPlace_7 : decode cX4_checkPlace 7 = .ok (.if_icmp .lt 14, 3) := by decide +kernel
theorem dX4_checkPlace_10 : decode cX4_checkPlace 10 = .ok (.new 281, 3) := by decide +kernel
theorem dX4_checkPlace_13 : decode cX4_checkPlace 13 = .ok (.dup, 1) := by decide +kernel
theorem dX4_checkPlace_14 : decode cX4_checkPlace 14 = .ok (.ldc_w 290, 3) := by decide +kernel
theorem dX4_checkPlace_17 : decode cX4_checkPlace 17 = .ok (.invokespecial 285, 3) := by decide +kernel
theorem dX4_checkPlace_20 : decode cX4_checkPlace 20 = .ok (.athrow, 1) := by decide +kernel
theorem dX4_checkPlace_21 : decode cX4_checkPlace 21 = .ok (.return_, 1) := by decide +kernel
theorem dX4_checkNumber_0 : decode cX4_checkNumber 0 = .ok (.iload_n 0, 1) := by decide +kernel
theorem dX4_checkNumber_1 : decode cX4_checkNumber 1 = .ok (.iconst 1, 1) := by decide +kernel
theorem dX4_checkNumber_2 : decode cX4_checkNumber 2 = .ok (.if_icmp .lt 10, 3) := by decide +kernel
theorem dX4_checkNumber_5 : decode cX4_checkNumber 5 = .ok (.iload_n 0, 1) := by decide +kernel
theorem dX4_checkNumber_6 : decode cX4_checkNumber 6 = .ok (.ldc_w 292, 3) := by decide +kernel
theorem dX4_checkNumber_9 : decode cX4_checkNumber 9 = .ok (.if_icmp .le 14, 3) := by decide +kernel
theorem dX4_checkNumber_12 : decode cX4_checkNumber 12 = .ok (.new 69, 3) := by decide +kernel
theorem dX4_checkNumber_15 : decode cX4_checkNumber 15 = .ok (.dup, 1) := by decide +kernel
theorem dX4_checkNumber_16 : decode cX4_checkNumber 16 = .ok (.ldc_w 293, 3) := by decide +kernel
theorem dX4_checkNumber_19 : decode cX4_checkNumber 19 = .ok (.invokespecial 73, 3) := by decide +kernel
theorem dX4_checkNumber_22 : decode cX4_checkNumber 22 = .ok (.athrow, 1) := by decide +kernel
theorem dX4_checkNumber_23 : decode cX4_checkNumber 23 = .ok (.return_, 1) := by decide +kernel
theorem dX4_checkHue_0 : decode cX4_checkHue 0 = .ok (.iload_n 0, 1) := by decide +kernel
theorem dX4_checkHue_1 : decode cX4_checkHue 1 = .ok (.ifCond .lt 9, 3) := by decide +kernel
theorem dX4_checkHue_4 : decode cX4_checkHue 4 = .ok (.iload_n 0, 1) := by decide +kernel
theorem dX4_checkHue_5 : decode cX4_checkHue 5 = .ok (.bipush 6, 2) := by decide +kernel
theorem dX4_checkHue_7 : decode cX4_checkHue 7 = .ok (.if_icmp .lt 14, 3) := by decide +kernel
theorem dX4_checkHue_10 : decode cX4_checkHue 10 = .ok (.new 69, 3) := by decide +kernel
theorem dX4_checkHue_13 : decode cX4_checkHue 13 = .ok (.dup, 1) := by decide +kernel
theorem dX4_checkHue_14 : decode cX4_checkHue 14 = .ok (.ldc_w 295, 3) := by decide +kernel
theorem dX4_checkHue_17 : decode cX4_checkHue 17 = .ok (.invokespecial 73, 3) := by decide +kernel
theorem dX4_checkHue_20 : decode cX4_checkHue 20 = .ok (.athrow, 1) := by decide +kernel
theorem dX4_checkHue_21 : decode cX4_checkHue 21 = .ok (.return_, 1) := by decide +kernel
theorem dX4_checkSlot_0 : decode cX4_checkSlot 0 = .ok (.iload_n 0, 1) := by decide +kernel
theorem dX4_checkSlot_1 : decode cX4_checkSlot 1 = .ok (.ifCond .lt 8, 3) := by decide +kernel
theorem dX4_checkSlot_4 : decode cX4_checkSlot 4 = .ok (.iload_n 0, 1) := by decide +kernel
theorem dX4_checkSlot_5 : decode cX4_checkSlot 5 = .ok (.iconst 2, 1) := by decide +kernel
theorem dX4_checkSlot_6 : decode cX4_checkSlot 6 = .ok (.if_icmp .lt 14, 3) := by decide +kernel
theorem dX4_checkSlot_9 : decode cX4_checkSlot 9 = .ok (.new 69, 3) := by decide +kernel
theorem dX4_checkSlot_12 : decode cX4_checkSlot 12 = .ok (.dup, 1) := by decide +kernel
theorem dX4_checkSlot_13 : decode cX4_checkSlot 13 = .ok (.ldc_w 297, 3) := by decide +kernel
theorem dX4_checkSlot_16 : decode cX4_checkSlot 16 = .ok (.invokespecial 73, 3) := by decide +kernel
theorem dX4_checkSlot_19 : decode cX4_checkSlot 19 = .ok (.athrow, 1) := by decide +kernel
theorem dX4_checkSlot_20 : decode cX4_checkSlot 20 = .ok (.return_, 1) := by decide +kernel
theorem dX4_readBuffer_0 : decode cX4_readBuffer 0 = .ok (.aload_n 0, 1) := by decide +kernel
theorem dX4_readBuffer_1 : decode cX4_readBuffer 1 = .ok (.getfield 38, 3) := by decide +kernel
theorem dX4_readBuffer_4 : decode cX4_readBuffer 4 = .ok (.invokevirtual 121, 3) := by decide +kernel
theorem dX4_readBuffer_7 : decode cX4_readBuffer 7 = .ok (.iconst 0, 1) := by decide +kernel
theorem dX4_readBuffer_8 : decode cX4_readBuffer 8 = .ok (.istore_n 1, 1) := by decide +kernel
theorem dX4_readBuffer_9 : decode cX4_readBuffer 9 = .ok (.iload_n 1, 1) := by decide +kernel
theorem dX4_readBuffer_10 : decode cX4_readBuffer 10 = .ok (.aload_n 0, 1) := by decide +kernel
theorem dX4_readBuffer_11 : decode cX4_readBuffer 11 = .ok (.getfield 31, 3) := by decide +kernel
theorem dX4_readBuffer_14 : decode cX4_readBuffer 14 = .ok (.if_icmp .ge 27, 3) := by decide +kernel
theorem dX4_readBuffer_17 : decode cX4_readBuffer 17 = .ok (.aload_n 0, 1) := by decide +kernel
theorem dX4_readBuffer_18 : decode cX4_readBuffer 18 = .ok (.getfield 38, 3) := by decide +kernel
theorem dX4_readBuffer_21 : decode cX4_readBuffer 21 = .ok (.aload_n 0, 1) := by decide +kernel
theorem dX4_readBuffer_22 : decode cX4_readBuffer 22 = .ok (.getfield 27, 3) := by decide +kernel
theorem dX4_readBuffer_25 : decode cX4_readBuffer 25 = .ok (.iload_n 1, 1) := by decide +kernel
theorem dX4_readBuffer_26 : decode cX4_readBuffer 26 = .ok (.caload, 1) := by decide +kernel
theorem dX4_readBuffer_27 : decode cX4_readBuffer 27 = .ok (.invokevirtual 127, 3) := by decide +kernel
theorem dX4_readBuffer_30 : decode cX4_readBuffer 30 = .ok (.ifCond .ne 5, 3) := by decide +kernel
theorem dX4_readBuffer_33 : decode cX4_readBuffer 33 = .ok (.iload_n 1, 1) := by decide +kernel
theorem dX4_readBuffer_34 : decode cX4_readBuffer 34 = .ok (.ireturn, 1) := by decide +kernel
theorem dX4_readBuffer_35 : decode cX4_readBuffer 35 = .ok (.iinc 1 1, 3) := by decide +kernel
theorem dX4_readBuffer_38 : decode cX4_readBuffer 38 = .ok (.goto (-29), 3) := by decide +kernel
theorem dX4_readBuffer_41 : decode cX4_readBuffer 41 = .ok (.aload_n 0, 1) := by decide +kernel
theorem dX4_readBuffer_42 : decode cX4_readBuffer 42 = .ok (.getfield 31, 3) := by decide +kernel
theorem dX4_readBuffer_45 : decode cX4_readBuffer 45 = .ok (.ireturn, 1) := by decide +kernel
theorem dX4_doOrderRead_0 : decode cX4_doOrderRead 0 = .ok (.aload_n 0, 1) := by decide +kernel
theorem dX4_doOrderRead_1 : decode cX4_doOrderRead 1 = .ok (.getfield 10, 3) := by decide +kernel
theorem dX4_doOrderRead_4 : decode cX4_doOrderRead 4 = .ok (.getfield 207, 3) := by decide +kernel
theorem dX4_doOrderRead_7 : decode cX4_doOrderRead 7 = .ok (.istore_n 1, 1) := by decide +kernel
theorem dX4_doOrderRead_8 : decode cX4_doOrderRead 8 = .ok (.aload_n 0, 1) := by decide +kernel
theorem dX4_doOrderRead_9 : decode cX4_doOrderRead 9 = .ok (.getfield 10, 3) := by decide +kernel
theorem dX4_doOrderRead_12 : decode cX4_doOrderRead 12 = .ok (.getfield 286, 3) := by decide +kernel
theorem dX4_doOrderRead_15 : decode cX4_doOrderRead 15 = .ok (.aload_n 0, 1) := by decide +kernel
theorem dX4_doOrderRead_16 : decode cX4_doOrderRead 16 = .ok (.getfield 38, 3) := by decide +kernel
theorem dX4_doOrderRead_19 : decode cX4_doOrderRead 19 = .ok (.getfield 299, 3) := by decide +kernel
theorem dX4_doOrderRead_22 : decode cX4_doOrderRead 22 = .ok (.aaload, 1) := by decide +kernel
theorem dX4_doOrderRead_23 : decode cX4_doOrderRead 23 = .ok (.astore_n 2, 1) := by decide +kernel
theorem dX4_doOrderRead_24 : decode cX4_doOrderRead 24 = .ok (.aload_n 0, 1) := by decide +kernel
theorem dX4_doOrderRead_25 : decode cX4_doOrderRead 25 = .ok (.getfield 38, 3) := by decide +kernel
theorem dX4_doOrderRead_28 : decode cX4_doOrderRead 28 = .ok (.getfield 302, 3) := by decide +kernel
theorem dX4_doOrderRead_31 : decode cX4_doOrderRead 31 = .ok (.bipush 43, 2) := by decide +kernel
theorem dX4_doOrderRead_33 : decode cX4_doOrderRead 33 = .ok (.if_icmp .ne 22, 3) := by decide +kernel
theorem dX4_doOrderRead_36 : decode cX4_doOrderRead 36 = .ok (.aload_n 0, 1) := by decide +kernel
theorem dX4_doOrderRead_37 : decode cX4_doOrderRead 37 = .ok (.getfield 10, 3) := by decide +kernel
theorem dX4_doOrderRead_40 : decode cX4_doOrderRead 40 = .ok (.aload_n 2, 1) := by decide +kernel
theorem dX4_doOrderRead_41 : decode cX4_doOrderRead 41 = .ok (.aload_n 0, 1) := by decide +kernel
theorem dX4_doOrderRead_42 : decode cX4_doOrderRead 42 = .ok (.getfield 38, 3) := by decide +kernel
theorem dX4_doOrderRead_45 : decode cX4_doOrderRead 45 = .ok (.getfield 306, 3) := by decide +kernel
theorem dX4_doOrderRead_48 : decode cX4_doOrderRead 48 = .ok (.invokevirtual 65, 3) := by decide +kernel
theorem dX4_doOrderRead_51 : decode cX4_doOrderRead 51 = .ok (.pop, 1) := by decide +kernel
theorem dX4_doOrderRead_52 : decode cX4_doOrderRead 52 = .ok (.goto 58, 3) := by decide +kernel
theorem dX4_doOrderRead_55 : decode cX4_doOrderRead 55 = .ok (.aload_n 0, 1) := by decide +kernel
theorem dX4_doOrderRead_56 : decode cX4_doOrderRead 56 = .ok (.getfield 38, 3) := by decide +kernel
theorem dX4_doOrderRead_59 : decode cX4_doOrderRead 59 = .ok (.getfield 302, 3) := by decide +kernel
theorem dX4_doOrderRead_62 : decode cX4_doOrderRead 62 = .ok (.bipush 62, 2) := by decide +kernel
theorem dX4_doOrderRead_64 : decode cX4_doOrderRead 64 = .ok (.if_icmp .ne 30, 3) := by decide +kernel
theorem dX4_doOrderRead_67 : decode cX4_doOrderRead 67 = .ok (.aload_n 0, 1) := by decide +kernel
theorem dX4_doOrderRead_68 : decode cX4_doOrderRead 68 = .ok (.getfield 10, 3) := by decide +kernel
theorem dX4_doOrderRead_71 : decode cX4_doOrderRead 71 = .ok (.aload_n 2, 1) := by decide +kernel
theorem dX4_doOrderRead_72 : decode cX4_doOrderRead 72 = .ok (.aload_n 0, 1) := by decide +kernel
theorem dX4_doOrderRead_73 : decode cX4_doOrderRead 73 = .ok (.getfield 10, 3) := by decide +kernel
theorem dX4_doOrderRead_76 : decode cX4_doOrderRead 76 = .ok (.getfield 286, 3) := by decide +kernel
theorem dX4_doOrderRead_79 : decode cX4_doOrderRead 79 = .ok (.aload_n 0, 1) := by decide +kernel
theorem dX4_doOrderRead_80 : decode cX4_doOrderRead 80 = .ok (.getfield 38, 3) := by decide +kernel
theorem dX4_doOrderRead_83 : decode cX4_doOrderRead 83 = .ok (.getfield 306, 3) := by decide +kernel
theorem dX4_doOrderRead_86 : decode cX4_doOrderRead 86 = .ok (.aaload, 1) := by decide +kernel
theorem dX4_doOrderRead_87 : decode cX4_doOrderRead 87 = .ok (.invokevirtual 76, 3) := by decide +kernel
theorem dX4_doOrderRead_90 : decode cX4_doOrderRead 90 = .ok (.pop, 1) := by decide +kernel
theorem dX4_doOrderRead_91 : decode cX4_doOrderRead 91 = .ok (.goto 19, 3) := by decide +kernel
theorem dX4_doOrderRead_94 : decode cX4_doOrderRead 94 = .ok (.aload_n 0, 1) := by decide +kernel
theorem dX4_doOrderRead_95 : decode cX4_doOrderRead 95 = .ok (.getfield 10, 3) := by decide +kernel
theorem dX4_doOrderRead_98 : decode cX4_doOrderRead 98 = .ok (.aload_n 2, 1) := by decide +kernel
theorem dX4_doOrderRead_99 : decode cX4_doOrderRead 99 = .ok (.aload_n 0, 1) := by decide +kernel
theorem dX4_doOrderRead_100 : decode cX4_doOrderRead 100 = .ok (.getfield 38, 3) := by decide +kernel
theorem dX4_doOrderRead_103 : decode cX4_doOrderRead 103 = .ok (.getfield 306, 3) := by decide +kernel
theorem dX4_doOrderRead_106 : decode cX4_doOrderRead 106 = .ok (.invokevirtual 83, 3) := by decide +kernel
theorem dX4_doOrderRead_109 : decode cX4_doOrderRead 109 = .ok (.pop, 1) := by decide +kernel
theorem dX4_doOrderRead_110 : decode cX4_doOrderRead 110 = .ok (.aload_n 0, 1) := by decide +kernel
theorem dX4_doOrderRead_111 : decode cX4_doOrderRead 111 = .ok (.getfield 10, 3) := by decide +kernel
theorem dX4_doOrderRead_114 : decode cX4_doOrderRead 114 = .ok (.getfield 207, 3) := by decide +kernel
theorem dX4_doOrderRead_117 : decode cX4_doOrderRead 117 = .ok (.iload_n 1, 1) := by decide +kernel
theorem dX4_doOrderRead_118 : decode cX4_doOrderRead 118 = .ok (.if_icmp .ne 7, 3) := by decide +kernel
theorem dX4_doOrderRead_121 : decode cX4_doOrderRead 121 = .ok (.iconst 1, 1) := by decide +kernel
theorem dX4_doOrderRead_122 : decode cX4_doOrderRead 122 = .ok (.goto 4, 3) := by decide +kernel
theorem dX4_doOrderRead_125 : decode cX4_doOrderRead 125 = .ok (.iconst 0, 1) := by decide +kernel
theorem dX4_doOrderRead_126 : decode cX4_doOrderRead 126 = .ok (.ireturn, 1) := by decide +kernel
theorem dX4_bestOfAllSets_0 : decode cX4_bestOfAllSets 0 = .ok (.iconst (-1), 1) := by decide +kernel
theorem dX4_bestOfAllSets_1 : decode cX4_bestOfAllSets 1 = .ok (.istore_n 2, 1) := by decide +kernel
theorem dX4_bestOfAllSets_2 : decode cX4_bestOfAllSets 2 = .ok (.iconst 1, 1) := by decide +kernel
theorem dX4_bestOfAllSets_3 : decode cX4_bestOfAllSets 3 = .ok (.istore_n 3, 1) := by decide +kernel
theorem dX4_bestOfAllSets_4 : decode cX4_bestOfAllSets 4 = .ok (.iload_n 3, 1) := by decide +kernel
theorem dX4_bestOfAllSets_5 : decode cX4_bestOfAllSets 5 = .ok (.sipush 128, 3) := by decide +kernel
theorem dX4_bestOfAllSets_8 : decode cX4_bestOfAllSets 8 = .ok (.if_icmp .ge 24, 3) := by decide +kernel
theorem dX4_bestOfAllSets_11 : decode cX4_bestOfAllSets 11 = .ok (.aload_n 0, 1) := by decide +kernel
theorem dX4_bestOfAllSets_12 : decode cX4_bestOfAllSets 12 = .ok (.iload_n 3, 1) := by decide +kernel
theorem dX4_bestOfAllSets_13 : decode cX4_bestOfAllSets 13 = .ok (.invokestatic 309, 3) := by decide +kernel
theorem dX4_bestOfAllSets_16 : decode cX4_bestOfAllSets 16 = .ok (.iload_n 1, 1) := by decide +kernel
theorem dX4_bestOfAllSets_17 : decode cX4_bestOfAllSets 17 = .ok (.if_icmp .ne 9, 3) := by decide +kernel
theorem dX4_bestOfAllSets_20 : decode cX4_bestOfAllSets 20 = .ok (.iload_n 3, 1) := by decide +kernel
theorem dX4_bestOfAllSets_21 : decode cX4_bestOfAllSets 21 = .ok (.iload_n 2, 1) := by decide +kernel
theorem dX4_bestOfAllSets_22 : decode cX4_bestOfAllSets 22 = .ok (.invokestatic 312, 3) := by decide +kernel
theorem dX4_bestOfAllSets_25 : decode cX4_bestOfAllSets 25 = .ok (.istore_n 2, 1) := by decide +kernel
theorem dX4_bestOfAllSets_26 : decode cX4_bestOfAllSets 26 = .ok (.iinc 3 1, 3) := by decide +kernel
theorem dX4_bestOfAllSets_29 : decode cX4_bestOfAllSets 29 = .ok (.goto (-25), 3) := by decide +kernel
theorem dX4_bestOfAllSets_32 : decode cX4_bestOfAllSets 32 = .ok (.iload_n 2, 1) := by decide +kernel
theorem dX4_bestOfAllSets_33 : decode cX4_bestOfAllSets 33 = .ok (.ireturn, 1) := by decide +kernel
theorem dX4_toldBySet_0 : decode cX4_toldBySet 0 = .ok (.iconst 0, 1) := by decide +kernel
theorem dX4_toldBySet_1 : decode cX4_toldBySet 1 = .ok (.istore_n 2, 1) := by decide +kernel
theorem dX4_toldBySet_2 : decode cX4_toldBySet 2 = .ok (.iconst 0, 1) := by decide +kernel
theorem dX4_toldBySet_3 : decode cX4_toldBySet 3 = .ok (.istore_n 3, 1) := by decide +kernel
theorem dX4_toldBySet_4 : decode cX4_toldBySet 4 = .ok (.iload_n 3, 1) := by decide +kernel
theorem dX4_toldBySet_5 : decode cX4_toldBySet 5 = .ok (.bipush 7, 2) := by decide +kernel
theorem dX4_toldBySet_7 : decode cX4_toldBySet 7 = .ok (.if_icmp .ge 24, 3) := by decide +kernel
theorem dX4_toldBySet_10 : decode cX4_toldBySet 10 = .ok (.iload_n 1, 1) := by decide +kernel
theorem dX4_toldBySet_11 : decode cX4_toldBySet 11 = .ok (.iload_n 3, 1) := by decide +kernel
theorem dX4_toldBySet_12 : decode cX4_toldBySet 12 = .ok (.ishr, 1) := by decide +kernel
theorem dX4_toldBySet_13 : decode cX4_toldBySet 13 = .ok (.iconst 1, 1) := by decide +kernel
theorem dX4_toldBySet_14 : decode cX4_toldBySet 14 = .ok (.iand, 1) := by decide +kernel
theorem dX4_toldBySet_15 : decode cX4_toldBySet 15 = .ok (.iconst 1, 1) := by decide +kernel
theorem dX4_toldBySet_16 : decode cX4_toldBySet 16 = .ok (.if_icmp .ne 9, 3) := by decide +kernel
theorem dX4_toldBySet_19 : decode cX4_toldBySet 19 = .ok (.iload_n 2, 1) := by decide +kernel
theorem dX4_toldBySet_20 : decode cX4_toldBySet 20 = .ok (.aload_n 0, 1) := by decide +kernel
theorem dX4_toldBySet_21 : decode cX4_toldBySet 21 = .ok (.iload_n 3, 1) := by decide +kernel
theorem dX4_toldBySet_22 : decode cX4_toldBySet 22 = .ok (.iaload, 1) := by decide +kernel
theorem dX4_toldBySet_23 : decode cX4_toldBySet 23 = .ok (.iadd, 1) := by decide +kernel
theorem dX4_toldBySet_24 : decode cX4_toldBySet 24 = .ok (.istore_n 2, 1) := by decide +kernel
theorem dX4_toldBySet_25 : decode cX4_toldBySet 25 = .ok (.iinc 3 1, 3) := by decide +kernel
theorem dX4_toldBySet_28 : decode cX4_toldBySet 28 = .ok (.goto (-24), 3) := by decide +kernel
theorem dX4_toldBySet_31 : decode cX4_toldBySet 31 = .ok (.iload_n 2, 1) := by decide +kernel
theorem dX4_toldBySet_32 : decode cX4_toldBySet 32 = .ok (.ireturn, 1) := by decide +kernel
theorem dX4_bestByTrying_0 : decode cX4_bestByTrying 0 = .ok (.iload_n 2, 1) := by decide +kernel
theorem dX4_bestByTrying_1 : decode cX4_bestByTrying 1 = .ok (.ifCond .ne 10, 3) := by decide +kernel
theorem dX4_bestByTrying_4 : decode cX4_bestByTrying 4 = .ok (.iload_n 3, 1) := by decide +kernel
theorem dX4_bestByTrying_5 : decode cX4_bestByTrying 5 = .ok (.iload 4, 2) := by decide +kernel
theorem dX4_bestByTrying_7 : decode cX4_bestByTrying 7 = .ok (.invokestatic 312, 3) := by decide +kernel
theorem dX4_bestByTrying_10 : decode cX4_bestByTrying 10 = .ok (.ireturn, 1) := by decide +kernel
theorem dX4_bestByTrying_11 : decode cX4_bestByTrying 11 = .ok (.iload_n 2, 1) := by decide +kernel
theorem dX4_bestByTrying_12 : decode cX4_bestByTrying 12 = .ok (.ifCond .lt 9, 3) := by decide +kernel
theorem dX4_bestByTrying_15 : decode cX4_bestByTrying 15 = .ok (.iload_n 1, 1) := by decide +kernel
theorem dX4_bestByTrying_16 : decode cX4_bestByTrying 16 = .ok (.bipush 7, 2) := by decide +kernel
theorem dX4_bestByTrying_18 : decode cX4_bestByTrying 18 = .ok (.if_icmp .lt 6, 3) := by decide +kernel
theorem dX4_bestByTrying_21 : decode cX4_bestByTrying 21 = .ok (.iload 4, 2) := by decide +kernel
theorem dX4_bestByTrying_23 : decode cX4_bestByTrying 23 = .ok (.ireturn, 1) := by decide +kernel
theorem dX4_bestByTrying_24 : decode cX4_bestByTrying 24 = .ok (.aload_n 0, 1) := by decide +kernel
theorem dX4_bestByTrying_25 : decode cX4_bestByTrying 25 = .ok (.iload_n 1, 1) := by decide +kernel
theorem dX4_bestByTrying_26 : decode cX4_bestByTrying 26 = .ok (.iconst 1, 1) := by decide +kernel
theorem dX4_bestByTrying_27 : decode cX4_bestByTrying 27 = .ok (.iadd, 1) := by decide +kernel
theorem dX4_bestByTrying_28 : decode cX4_bestByTrying 28 = .ok (.iload_n 2, 1) := by decide +kernel
theorem dX4_bestByTrying_29 : decode cX4_bestByTrying 29 = .ok (.aload_n 0, 1) := by decide +kernel
theorem dX4_bestByTrying_30 : decode cX4_bestByTrying 30 = .ok (.iload_n 1, 1) := by decide +kernel
theorem dX4_bestByTrying_31 : decode cX4_bestByTrying 31 = .ok (.iaload, 1) := by decide +kernel
theorem dX4_bestByTrying_32 : decode cX4_bestByTrying 32 = .ok (.isub, 1) := by decide +kernel
theorem dX4_bestByTrying_33 : decode cX4_bestByTrying 33 = .ok (.iload_n 3, 1) := by decide +kernel
theorem dX4_bestByTrying_34 : decode cX4_bestByTrying 34 = .ok (.iconst 1, 1) := by decide +kernel
theorem dX4_bestByTrying_35 : decode cX4_bestByTrying 35 = .ok (.iload_n 1, 1) := by decide +kernel
theorem dX4_bestByTrying_36 : decode cX4_bestByTrying 36 = .ok (.ishl, 1) := by decide +kernel
theorem dX4_bestByTrying_37 : decode cX4_bestByTrying 37 = .ok (.ior, 1) := by decide +kernel
theorem dX4_bestByTrying_38 : decode cX4_bestByTrying 38 = .ok (.iload 4, 2) := by decide +kernel
theorem dX4_bestByTrying_40 : decode cX4_bestByTrying 40 = .ok (.invokestatic 240, 3) := by decide +kernel
theorem dX4_bestByTrying_43 : decode cX4_bestByTrying 43 = .ok (.istore 5, 2) := by decide +kernel
theorem dX4_bestByTrying_45 : decode cX4_bestByTrying 45 = .ok (.aload_n 0, 1) := by decide +kernel
theorem dX4_bestByTrying_46 : decode cX4_bestByTrying 46 = .ok (.iload_n 1, 1) := by decide +kernel
theorem dX4_bestByTrying_47 : decode cX4_bestByTrying 47 = .ok (.iconst 1, 1) := by decide +kernel
theorem dX4_bestByTrying_48 : decode cX4_bestByTrying 48 = .ok (.iadd, 1) := by decide +kernel
theorem dX4_bestByTrying_49 : decode cX4_bestByTrying 49 = .ok (.iload_n 2, 1) := by decide +kernel
theorem dX4_bestByTrying_50 : decode cX4_bestByTrying 50 = .ok (.iload_n 3, 1) := by decide +kernel
theorem dX4_bestByTrying_51 : decode cX4_bestByTrying 51 = .ok (.iload 5, 2) := by decide +kernel
theorem dX4_bestByTrying_53 : decode cX4_bestByTrying 53 = .ok (.invokestatic 240, 3) := by decide +kernel
theorem dX4_bestByTrying_56 : decode cX4_bestByTrying 56 = .ok (.ireturn, 1) := by decide +kernel
theorem dX4_better_0 : decode cX4_better 0 = .ok (.iload_n 1, 1) := by decide +kernel
theorem dX4_better_1 : decode cX4_better 1 = .ok (.iconst (-1), 1) := by decide +kernel
theorem dX4_better_2 : decode cX4_better 2 = .ok (.if_icmp .ne 5, 3) := by decide +kernel
theorem dX4_better_5 : decode cX4_better 5 = .ok (.iload_n 0, 1) := by decide +kernel
theorem dX4_better_6 : decode cX4_better 6 = .ok (.ireturn, 1) := by decide +kernel
theorem dX4_better_7 : decode cX4_better 7 = .ok (.iload_n 0, 1) := by decide +kernel
theorem dX4_better_8 : decode cX4_better 8 = .ok (.invokestatic 315, 3) := by decide +kernel
theorem dX4_better_11 : decode cX4_better 11 = .ok (.iload_n 1, 1) := by decide +kernel
theorem dX4_better_12 : decode cX4_better 12 = .ok (.invokestatic 315, 3) := by decide +kernel
theorem dX4_better_15 : decode cX4_better 15 = .ok (.invokestatic 320, 3) := by decide +kernel
theorem dX4_better_18 : decode cX4_better 18 = .ok (.istore_n 2, 1) := by decide +kernel
theorem dX4_better_19 : decode cX4_better 19 = .ok (.iload_n 2, 1) := by decide +kernel
theorem dX4_better_20 : decode cX4_better 20 = .ok (.ifCond .lt 12, 3) := by decide +kernel
theorem dX4_better_23 : decode cX4_better 23 = .ok (.iload_n 2, 1) := by decide +kernel
theorem dX4_better_24 : decode cX4_better 24 = .ok (.ifCond .ne 12, 3) := by decide +kernel
theorem dX4_better_27 : decode cX4_better 27 = .ok (.iload_n 0, 1) := by decide +kernel
theorem dX4_better_28 : decode cX4_better 28 = .ok (.iload_n 1, 1) := by decide +kernel
theorem dX4_better_29 : decode cX4_better 29 = .ok (.if_icmp .ge 7, 3) := by decide +kernel
theorem dX4_better_32 : decode cX4_better 32 = .ok (.iload_n 0, 1) := by decide +kernel
theorem dX4_better_33 : decode cX4_better 33 = .ok (.goto 4, 3) := by decide +kernel
theorem dX4_better_36 : decode cX4_better 36 = .ok (.iload_n 1, 1) := by decide +kernel
theorem dX4_better_37 : decode cX4_better 37 = .ok (.ireturn, 1) := by decide +kernel
theorem dX4_mixCord_0 : decode cX4_mixCord 0 = .ok (.lload_n 1, 1) := by decide +kernel
theorem dX4_mixCord_1 : decode cX4_mixCord 1 = .ok (.lstore 4, 2) := by decide +kernel
theorem dX4_mixCord_3 : decode cX4_mixCord 3 = .ok (.iconst 0, 1) := by decide +kernel
theorem dX4_mixCord_4 : decode cX4_mixCord 4 = .ok (.istore 6, 2) := by decide +kernel
theorem dX4_mixCord_6 : decode cX4_mixCord 6 = .ok (.iload 6, 2) := by decide +kernel
theorem dX4_mixCord_8 : decode cX4_mixCord 8 = .ok (.bipush 7, 2) := by decide +kernel
theorem dX4_mixCord_10 : decode cX4_mixCord 10 = .ok (.if_icmp .gt 24, 3) := by decide +kernel
theorem dX4_mixCord_13 : decode cX4_mixCord 13 = .ok (.lload 4, 2) := by decide +kernel
theorem dX4_mixCord_15 : decode cX4_mixCord 15 = .ok (.aload_n 0, 1) := by decide +kernel
theorem dX4_mixCord_16 : decode cX4_mixCord 16 = .ok (.iload_n 3, 1) := by decide +kernel
theorem dX4_mixCord_17 : decode cX4_mixCord 17 = .ok (.iload 6, 2) := by decide +kernel
theorem dX4_mixCord_19 : decode cX4_mixCord 19 = .ok (.invokevirtual 323, 3) := by decide +kernel
theorem dX4_mixCord_22 : decode cX4_mixCord 22 = .ok (.i2l, 1) := by decide +kernel
theorem dX4_mixCord_23 : decode cX4_mixCord 23 = .ok (.invokestatic 256, 3) := by decide +kernel
theorem dX4_mixCord_26 : decode cX4_mixCord 26 = .ok (.lstore 4, 2) := by decide +kernel
theorem dX4_mixCord_28 : decode cX4_mixCord 28 = .ok (.iinc 6 1, 3) := by decide +kernel
theorem dX4_mixCord_31 : decode cX4_mixCord 31 = .ok (.goto (-25), 3) := by decide +kernel
theorem dX4_mixCord_34 : decode cX4_mixCord 34 = .ok (.iconst 0, 1) := by decide +kernel
theorem dX4_mixCord_35 : decode cX4_mixCord 35 = .ok (.istore 6, 2) := by decide +kernel
theorem dX4_mixCord_37 : decode cX4_mixCord 37 = .ok (.iload 6, 2) := by decide +kernel
theorem dX4_mixCord_39 : decode cX4_mixCord 39 = .ok (.bipush 6, 2) := by decide +kernel
theorem dX4_mixCord_41 : decode cX4_mixCord 41 = .ok (.if_icmp .ge 41, 3) := by decide +kernel
theorem dX4_mixCord_44 : decode cX4_mixCord 44 = .ok (.iconst 0, 1) := by decide +kernel
theorem dX4_mixCord_45 : decode cX4_mixCord 45 = .ok (.istore 7, 2) := by decide +kernel
theorem dX4_mixCord_47 : decode cX4_mixCord 47 = .ok (.iload 7, 2) := by decide +kernel
theorem dX4_mixCord_49 : decode cX4_mixCord 49 = .ok (.iconst 3, 1) := by decide +kernel
theorem dX4_mixCord_50 : decode cX4_mixCord 50 = .ok (.if_icmp .gt 26, 3) := by decide +kernel
theorem dX4_mixCord_53 : decode cX4_mixCord 53 = .ok (.lload 4, 2) := by decide +kernel
theorem dX4_mixCord_55 : decode cX4_mixCord 55 = .ok (.aload_n 0, 1) := by decide +kernel
theorem dX4_mixCord_56 : decode cX4_mixCord 56 = .ok (.iload_n 3, 1) := by decide +kernel
theorem dX4_mixCord_57 : decode cX4_mixCord 57 = .ok (.iload 6, 2) := by decide +kernel
theorem dX4_mixCord_59 : decode cX4_mixCord 59 = .ok (.iload 7, 2) := by decide +kernel
theorem dX4_mixCord_61 : decode cX4_mixCord 61 = .ok (.invokevirtual 326, 3) := by decide +kernel
theorem dX4_mixCord_64 : decode cX4_mixCord 64 = .ok (.i2l, 1) := by decide +kernel
theorem dX4_mixCord_65 : decode cX4_mixCord 65 = .ok (.invokestatic 256, 3) := by decide +kernel
theorem dX4_mixCord_68 : decode cX4_mixCord 68 = .ok (.lstore 4, 2) := by decide +kernel
theorem dX4_mixCord_70 : decode cX4_mixCord 70 = .ok (.iinc 7 1, 3) := by decide +kernel
theorem dX4_mixCord_73 : decode cX4_mixCord 73 = .ok (.goto (-26), 3) := by decide +kernel
theorem dX4_mixCord_76 : decode cX4_mixCord 76 = .ok (.iinc 6 1, 3) := by decide +kernel
theorem dX4_mixCord_79 : decode cX4_mixCord 79 = .ok (.goto (-42), 3) := by decide +kernel
theorem dX4_mixCord_82 : decode cX4_mixCord 82 = .ok (.aload_n 0, 1) := by decide +kernel
theorem dX4_mixCord_83 : decode cX4_mixCord 83 = .ok (.iload_n 3, 1) := by decide +kernel
theorem dX4_mixCord_84 : decode cX4_mixCord 84 = .ok (.iconst 2, 1) := by decide +kernel
theorem dX4_mixCord_85 : decode cX4_mixCord 85 = .ok (.invokevirtual 323, 3) := by decide +kernel
theorem dX4_mixCord_88 : decode cX4_mixCord 88 = .ok (.istore 6, 2) := by decide +kernel
theorem dX4_mixCord_90 : decode cX4_mixCord 90 = .ok (.iconst 0, 1) := by decide +kernel
theorem dX4_mixCord_91 : decode cX4_mixCord 91 = .ok (.istore 7, 2) := by decide +kernel
theorem dX4_mixCord_93 : decode cX4_mixCord 93 = .ok (.iload 7, 2) := by decide +kernel
theorem dX4_mixCord_95 : decode cX4_mixCord 95 = .ok (.iload 6, 2) := by decide +kernel
theorem dX4_mixCord_97 : decode cX4_mixCord 97 = .ok (.if_icmp .ge 24, 3) := by decide +kernel
theorem dX4_mixCord_100 : decode cX4_mixCord 100 = .ok (.lload 4, 2) := by decide +kernel
theorem dX4_mixCord_102 : decode cX4_mixCord 102 = .ok (.aload_n 0, 1) := by decide +kernel
theorem dX4_mixCord_103 : decode cX4_mixCord 103 = .ok (.iload_n 3, 1) := by decide +kernel
theorem dX4_mixCord_104 : decode cX4_mixCord 104 = .ok (.iload 7, 2) := by decide +kernel
theorem dX4_mixCord_106 : decode cX4_mixCord 106 = .ok (.invokevirtual 330, 3) := by decide +kernel
theorem dX4_mixCord_109 : decode cX4_mixCord 109 = .ok (.i2l, 1) := by decide +kernel
theorem dX4_mixCord_110 : decode cX4_mixCord 110 = .ok (.invokestatic 256, 3) := by decide +kernel
theorem dX4_mixCord_113 : decode cX4_mixCord 113 = .ok (.lstore 4, 2) := by decide +kernel
theorem dX4_mixCord_115 : decode cX4_mixCord 115 = .ok (.iinc 7 1, 3) := by decide +kernel
theorem dX4_mixCord_118 : decode cX4_mixCord 118 = .ok (.goto (-25), 3) := by decide +kernel
theorem dX4_mixCord_121 : decode cX4_mixCord 121 = .ok (.lload 4, 2) := by decide +kernel
theorem dX4_mixCord_123 : decode cX4_mixCord 123 = .ok (.aload_n 0, 1) := by decide +kernel
theorem dX4_mixCord_124 : decode cX4_mixCord 124 = .ok (.iload_n 3, 1) := by decide +kernel
theorem dX4_mixCord_125 : decode cX4_mixCord 125 = .ok (.sipush 999, 3) := by decide +kernel
theorem dX4_mixCord_128 : decode cX4_mixCord 128 = .ok (.invokevirtual 333, 3) := by decide +kernel
theorem dX4_mixCord_131 : decode cX4_mixCord 131 = .ok (.i2l, 1) := by decide +kernel
theorem dX4_mixCord_132 : decode cX4_mixCord 132 = .ok (.invokestatic 256, 3) := by decide +kernel
theorem dX4_mixCord_135 : decode cX4_mixCord 135 = .ok (.lstore 4, 2) := by decide +kernel
theorem dX4_mixCord_137 : decode cX4_mixCord 137 = .ok (.lload 4, 2) := by decide +kernel
theorem dX4_mixCord_139 : decode cX4_mixCord 139 = .ok (.aload_n 0, 1) := by decide +kernel
theorem dX4_mixCord_140 : decode cX4_mixCord 140 = .ok (.iload_n 3, 1) := by decide +kernel
theorem dX4_mixCord_141 : decode cX4_mixCord 141 = .ok (.bipush 95, 2) := by decide +kernel
theorem dX4_mixCord_143 : decode cX4_mixCord 143 = .ok (.invokevirtual 336, 3) := by decide +kernel
theorem dX4_mixCord_146 : decode cX4_mixCord 146 = .ok (.i2l, 1) := by decide +kernel
theorem dX4_mixCord_147 : decode cX4_mixCord 147 = .ok (.invokestatic 256, 3) := by decide +kernel
theorem dX4_mixCord_150 : decode cX4_mixCord 150 = .ok (.lreturn, 1) := by decide +kernel
theorem dX4_mix_0 : decode cX4_mix 0 = .ok (.ldc2_w 339, 3) := by decide +kernel
theorem dX4_mix_3 : decode cX4_mix 3 = .ok (.lload_n 0, 1) := by decide +kernel
theorem dX4_mix_4 : decode cX4_mix 4 = .ok (.lmul, 1) := by decide +kernel
theorem dX4_mix_5 : decode cX4_mix 5 = .ok (.lload_n 2, 1) := by decide +kernel
theorem dX4_mix_6 : decode cX4_mix 6 = .ok (.ladd, 1) := by decide +kernel
theorem dX4_mix_7 : decode cX4_mix 7 = .ok (.lreturn, 1) := by decide +kernel
theorem dX4_bitsOfShare_0 : decode cX4_bitsOfShare 0 = .ok (.dload_n 0, 1) := by decide +kernel
theorem dX4_bitsOfShare_1 : decode cX4_bitsOfShare 1 = .ok (.dconst 0, 1) := by decide +kernel
theorem dX4_bitsOfShare_2 : decode cX4_bitsOfShare 2 = .ok (.dcmp .g, 1) := by decide +kernel
theorem dX4_bitsOfShare_3 : decode cX4_bitsOfShare 3 = .ok (.ifCond .gt 5, 3) := by decide +kernel
theorem dX4_bitsOfShare_6 : decode cX4_bitsOfShare 6 = .ok (.lconst 0, 1) := by decide +kernel
theorem dX4_bitsOfShare_7 : decode cX4_bitsOfShare 7 = .ok (.lreturn, 1) := by decide +kernel
theorem dX4_bitsOfShare_8 : decode cX4_bitsOfShare 8 = .ok (.dload_n 0, 1) := by decide +kernel
theorem dX4_bitsOfShare_9 : decode cX4_bitsOfShare 9 = .ok (.dstore_n 2, 1) := by decide +kernel
theorem dX4_bitsOfShare_10 : decode cX4_bitsOfShare 10 = .ok (.ldc2_w 341, 3) := by decide +kernel
theorem dX4_bitsOfShare_13 : decode cX4_bitsOfShare 13 = .ok (.lstore 4, 2) := by decide +kernel
theorem dX4_bitsOfShare_15 : decode cX4_bitsOfShare 15 = .ok (.dload_n 2, 1) := by decide +kernel
theorem dX4_bitsOfShare_16 : decode cX4_bitsOfShare 16 = .ok (.dconst 1, 1) := by decide +kernel
theorem dX4_bitsOfShare_17 : decode cX4_bitsOfShare 17 = .ok (.dcmp .g, 1) := by decide +kernel
theorem dX4_bitsOfShare_18 : decode cX4_bitsOfShare 18 = .ok (.ifCond .ge 25, 3) := by decide +kernel
theorem dX4_bitsOfShare_21 : decode cX4_bitsOfShare 21 = .ok (.lload 4, 2) := by decide +kernel
theorem dX4_bitsOfShare_23 : decode cX4_bitsOfShare 23 = .ok (.lconst 1, 1) := by decide +kernel
theorem dX4_bitsOfShare_24 : decode cX4_bitsOfShare 24 = .ok (.lcmp, 1) := by decide +kernel
theorem dX4_bitsOfShare_25 : decode cX4_bitsOfShare 25 = .ok (.ifCond .le 18, 3) := by decide +kernel
theorem dX4_bitsOfShare_28 : decode cX4_bitsOfShare 28 = .ok (.dload_n 2, 1) := by decide +kernel
theorem dX4_bitsOfShare_29 : decode cX4_bitsOfShare 29 = .ok (.ldc2_w 343, 3) := by decide +kernel
theorem dX4_bitsOfShare_32 : decode cX4_bitsOfShare 32 = .ok (.dmul, 1) := by decide +kernel
theorem dX4_bitsOfShare_33 : decode cX4_bitsOfShare 33 = .ok (.dstore_n 2, 1) := by decide +kernel
theorem dX4_bitsOfShare_34 : decode cX4_bitsOfShare 34 = .ok (.lload 4, 2) := by decide +kernel
theorem dX4_bitsOfShare_36 : decode cX4_bitsOfShare 36 = .ok (.lconst 1, 1) := by decide +kernel
theorem dX4_bitsOfShare_37 : decode cX4_bitsOfShare 37 = .ok (.lsub, 1) := by decide +kernel
theorem dX4_bitsOfShare_38 : decode cX4_bitsOfShare 38 = .ok (.lstore 4, 2) := by decide +kernel
theorem dX4_bitsOfShare_40 : decode cX4_bitsOfShare 40 = .ok (.goto (-25), 3) := by decide +kernel
theorem dX4_bitsOfShare_43 : decode cX4_bitsOfShare 43 = .ok (.dload_n 2, 1) := by decide +kernel
theorem dX4_bitsOfShare_44 : decode cX4_bitsOfShare 44 = .ok (.dconst 1, 1) := by decide +kernel
theorem dX4_bitsOfShare_45 : decode cX4_bitsOfShare 45 = .ok (.dsub, 1) := by decide +kernel
theorem dX4_bitsOfShare_46 : decode cX4_bitsOfShare 46 = .ok (.ldc2_w 345, 3) := by decide +kernel
theorem dX4_bitsOfShare_49 : decode cX4_bitsOfShare 49 = .ok (.dmul, 1) := by decide +kernel
theorem dX4_bitsOfShare_50 : decode cX4_bitsOfShare 50 = .ok (.d2l, 1) := by decide +kernel
theorem dX4_bitsOfShare_51 : decode cX4_bitsOfShare 51 = .ok (.lstore 6, 2) := by decide +kernel
theorem dX4_bitsOfShare_53 : decode cX4_bitsOfShare 53 = .ok (.lload 4, 2) := by decide +kernel
theorem dX4_bitsOfShare_55 : decode cX4_bitsOfShare 55 = .ok (.bipush 52, 2) := by decide +kernel
theorem dX4_bitsOfShare_57 : decode cX4_bitsOfShare 57 = .ok (.lshl, 1) := by decide +kernel
theorem dX4_bitsOfShare_58 : decode cX4_bitsOfShare 58 = .ok (.lload 6, 2) := by decide +kernel
theorem dX4_bitsOfShare_60 : decode cX4_bitsOfShare 60 = .ok (.ladd, 1) := by decide +kernel
theorem dX4_bitsOfShare_61 : decode cX4_bitsOfShare 61 = .ok (.lreturn, 1) := by decide +kernel
theorem dX5_init_0 : decode cX5_init 0 = .ok (.aload_n 0, 1) := by decide +kernel
theorem dX5_init_1 : decode cX5_init 1 = .ok (.invokespecial 1, 3) := by decide +kernel
theorem dX5_init_4 : decode cX5_init 4 = .ok (.aload_n 0, 1) := by decide +kernel
theorem dX5_init_5 : decode cX5_init 5 = .ok (.sipush 223, 3) := by decide +kernel
theorem dX5_init_8 : decode cX5_init 8 = .ok (.newarray .int, 2) := by decide +kernel
theorem dX5_init_10 : decode cX5_init 10 = .ok (.putfield 7, 3) := by decide +kernel
theorem dX5_init_13 : decode cX5_init 13 = .ok (.aload_n 0, 1) := by decide +kernel
theorem dX5_init_14 : decode cX5_init 14 = .ok (.sipush 223, 3) := by decide +kernel
theorem dX5_init_17 : decode cX5_init 17 = .ok (.newarray .int, 2) := by decide +kernel
theorem dX5_init_19 : decode cX5_init 19 = .ok (.putfield 13, 3) := by decide +kernel
theorem dX5_init_22 : decode cX5_init 22 = .ok (.aload_n 0, 1) := by decide +kernel
theorem dX5_init_23 : decode cX5_init 23 = .ok (.sipush 446, 3) := by decide +kernel
theorem dX5_init_26 : decode cX5_init 26 = .ok (.newarray .int, 2) := by decide +kernel
theorem dX5_init_28 : decode cX5_init 28 = .ok (.putfield 16, 3) := by decide +kernel
theorem dX5_init_31 : decode cX5_init 31 = .ok (.aload_n 0, 1) := by decide +kernel
theorem dX5_init_32 : decode cX5_init 32 = .ok (.iconst 2, 1) := by decide +kernel
theorem dX5_init_33 : decode cX5_init 33 = .ok (.newarray .boolean, 2) := by decide +kernel
theorem dX5_init_35 : decode cX5_init 35 = .ok (.putfield 19, 3) := by decide +kernel
theorem dX5_init_38 : decode cX5_init 38 = .ok (.aload_n 0, 1) := by decide +kernel
theorem dX5_init_39 : decode cX5_init 39 = .ok (.sipush 1338, 3) := by decide +kernel
theorem dX5_init_42 : decode cX5_init 42 = .ok (.newarray .int, 2) := by decide +kernel
theorem dX5_init_44 : decode cX5_init 44 = .ok (.putfield 23, 3) := by decide +kernel
theorem dX5_init_47 : decode cX5_init 47 = .ok (.aload_n 0, 1) := by decide +kernel
theorem dX5_init_48 : decode cX5_init 48 = .ok (.bipush 60, 2) := by decide +kernel
theorem dX5_init_50 : decode cX5_init 50 = .ok (.newarray .int, 2) := by decide +kernel
theorem dX5_init_52 : decode cX5_init 52 = .ok (.putfield 26, 3) := by decide +kernel
theorem dX5_init_55 : decode cX5_init 55 = .ok (.aload_n 0, 1) := by decide +kernel
theorem dX5_init_56 : decode cX5_init 56 = .ok (.bipush 6, 2) := by decide +kernel
theorem dX5_init_58 : decode cX5_init 58 = .ok (.newarray .int, 2) := by decide +kernel
theorem dX5_init_60 : decode cX5_init 60 = .ok (.putfield 29, 3) := by decide +kernel
theorem dX5_init_63 : decode cX5_init 63 = .ok (.aload_n 0, 1) := by decide +kernel
theorem dX5_init_64 : decode cX5_init 64 = .ok (.bipush 6, 2) := by decide +kernel
theorem dX5_init_66 : decode cX5_init 66 = .ok (.newarray .int, 2) := by decide +kernel
theorem dX5_init_68 : decode cX5_init 68 = .ok (.putfield 32, 3) := by decide +kernel
theorem dX5_init_71 : decode cX5_init 71 = .ok (.aload_n 0, 1) := by decide +kernel
theorem dX5_init_72 : decode cX5_init 72 = .ok (.getfield 7, 3) := by decide +kernel
theorem dX5_init_75 : decode cX5_init 75 = .ok (.iconst 5, 1) := by decide +kernel
theorem dX5_init_76 : decode cX5_init 76 = .ok (.bipush 40, 2) := by decide +kernel
theorem dX5_init_78 : decode cX5_init 78 = .ok (.iastore, 1) := by decide +kernel
theorem dX5_init_79 : decode cX5_init 79 = .ok (.return_, 1) := by decide +kernel
theorem dX5_thrown_0 : decode cX5_thrown 0 = .ok (.aload_n 0, 1) := by decide +kernel
theorem dX5_thrown_1 : decode cX5_thrown 1 = .ok (.getfield 35, 3) := by decide +kernel
theorem dX5_thrown_4 : decode cX5_thrown 4 = .ok (.ireturn, 1) := by decide +kernel
theorem dX5_in_0 : decode cX5_in 0 = .ok (.iload_n 0, 1) := by decide +kernel
theorem dX5_in_1 : decode cX5_in 1 = .ok (.iload_n 1, 1) := by decide +kernel
theorem dX5_in_2 : decode cX5_in 2 = .ok (.if_icmp .lt 12, 3) := by decide +kernel
theorem dX5_in_5 : decode cX5_in 5 = .ok (.iload_n 0, 1) := by decide +kernel
theorem dX5_in_6 : decode cX5_in 6 = .ok (.iload_n 2, 1) := by decide +kernel
theorem dX5_in_7 : decode cX5_in 7 = .ok (.if_icmp .gt 7, 3) := by decide +kernel
theorem dX5_in_10 : decode cX5_in 10 = .ok (.iconst 1, 1) := by decide +kernel
theorem dX5_in_11 : decode cX5_in 11 = .ok (.goto 4, 3) := by decide +kernel
theorem dX5_in_14 : decode cX5_in 14 = .ok (.iconst 0, 1) := by decide +kernel
theorem dX5_in_15 : decode cX5_in 15 = .ok (.ireturn, 1) := by decide +kernel
theorem dX5_isCord_0 : decode cX5_isCord 0 = .ok (.iload_n 0, 1) := by decide +kernel
theorem dX5_isCord_1 : decode cX5_isCord 1 = .ok (.iconst 0, 1) := by decide +kernel
theorem dX5_isCord_2 : decode cX5_isCord 2 = .ok (.bipush 6, 2) := by decide +kernel
theorem dX5_isCord_4 : decode cX5_isCord 4 = .ok (.invokestatic 39, 3) := by decide +kernel
theorem dX5_isCord_7 : decode cX5_isCord 7 = .ok (.ireturn, 1) := by decide +kernel
theorem dX5_holds_0 : decode cX5_holds 0 = .ok (.aload_n 0, 1) := by decide +kernel
theorem dX5_holds_1 : decode cX5_holds 1 = .ok (.iload_n 1, 1) := by decide +kernel
theorem dX5_holds_2 : decode cX5_holds 2 = .ok (.putfield 35, 3) := by decide +kernel
theorem dX5_holds_5 : decode cX5_holds 5 = .ok (.iload_n 1, 1) := by decide +kernel
theorem dX5_holds_6 : decode cX5_holds 6 = .ok (.ifCond .ne 7, 3) := by decide +kernel
theorem dX5_holds_9 : decode cX5_holds 9 = .ok (.iconst 1, 1) := by decide +kernel
theorem dX5_holds_10 : decode cX5_holds 10 = .ok (.goto 4, 3) := by decide +kernel
theorem dX5_holds_13 : decode cX5_holds 13 = .ok (.iconst 0, 1) := by decide +kernel
theorem dX5_holds_14 : decode cX5_holds 14 = .ok (.ireturn, 1) := by decide +kernel
theorem dX5_at_0 : decode cX5_at 0 = .ok (.bipush 6, 2) := by decide +kernel
theorem dX5_at_2 : decode cX5_at 2 = .ok (.bipush 31, 2) := by decide +kernel
theorem dX5_at_4 : decode cX5_at 4 = .ok (.iload_n 0, 1) := by decide +kernel
theorem dX5_at_5 : decode cX5_at 5 = .ok (.imul, 1) := by decide +kernel
theorem dX5_at_6 : decode cX5_at 6 = .ok (.iadd, 1) := by decide +kernel
theorem dX5_at_7 : decode cX5_at 7 = .ok (.iload_n 1, 1) := by decide +kernel
theorem dX5_at_8 : decode cX5_at 8 = .ok (.iadd, 1) := by decide +kernel
theorem dX5_at_9 : decode cX5_at 9 = .ok (.ireturn, 1) := by decide +kernel
theorem dX5_of_0 : decode cX5_of 0 = .ok (.aload_n 0, 1) := by decide +kernel
theorem dX5_of_1 : decode cX5_of 1 = .ok (.getfield 7, 3) := by decide +kernel
theorem dX5_of_4 : decode cX5_of 4 = .ok (.iload_n 1, 1) := by decide +kernel
theorem dX5_of_5 : decode cX5_of 5 = .ok (.iload_n 2, 1) := by decide +kernel
theorem dX5_of_6 : decode cX5_of 6 = .ok (.invokestatic 43, 3) := by decide +kernel
theorem dX5_of_9 : decode cX5_of 9 = .ok (.iaload, 1) := by decide +kernel
theorem dX5_of_10 : decode cX5_of 10 = .ok (.ireturn, 1) := by decide +kernel
theorem dX5_save_0 : decode cX5_save 0 = .ok (.aload_n 0, 1) := by decide +kernel
theorem dX5_save_1 : decode cX5_save 1 = .ok (.getfield 47, 3) := by decide +kernel
theorem dX5_save_4 : decode cX5_save 4 = .ok (.bipush 6, 2) := by decide +kernel
theorem dX5_save_6 : decode cX5_save 6 = .ok (.if_icmp .ne 44, 3) := by decide +kernel
theorem dX5_save_9 : decode cX5_save 9 = .ok (.iconst 0, 1) := by decide +kernel
theorem dX5_save_10 : decode cX5_save 10 = .ok (.istore_n 1, 1) := by decide +kernel
theorem dX5_save_11 : decode cX5_save 11 = .ok (.iload_n 1, 1) := by decide +kernel
theorem dX5_save_12 : decode cX5_save 12 = .ok (.sipush 1115, 3) := by decide +kernel
theorem dX5_save_15 : decode cX5_save 15 = .ok (.if_icmp .ge 25, 3) := by decide +kernel
theorem dX5_save_18 : decode cX5_save 18 = .ok (.aload_n 0, 1) := by decide +kernel
theorem dX5_save_19 : decode cX5_save 19 = .ok (.getfield 23, 3) := by decide +kernel
theorem dX5_save_22 : decode cX5_save 22 = .ok (.iload_n 1, 1) := by decide +kernel
theorem dX5_save_23 : decode cX5_save 23 = .ok (.aload_n 0, 1) := by decide +kernel
theorem dX5_save_24 : decode cX5_save 24 = .ok (.getfield 23, 3) := by decide +kernel
theorem dX5_save_27 : decode cX5_save 27 = .ok (.sipush 223, 3) := by decide +kernel
theorem dX5_save_30 : decode cX5_save 30 = .ok (.iload_n 1, 1) := by decide +kernel
theorem dX5_save_31 : decode cX5_save 31 = .ok (.iadd, 1) := by decide +kernel
theorem dX5_save_32 : decode cX5_save 32 = .ok (.iaload, 1) := by decide +kernel
theorem dX5_save_33 : decode cX5_save 33 = .ok (.iastore, 1) := by decide +kernel
theorem dX5_save_34 : decode cX5_save 34 = .ok (.iinc 1 1, 3) := by decide +kernel
theorem dX5_save_37 : decode cX5_save 37 = .ok (.goto (-26), 3) := by decide +kernel
theorem dX5_save_40 : decode cX5_save 40 = .ok (.aload_n 0, 1) := by decide +kernel
theorem dX5_save_41 : decode cX5_save 41 = .ok (.dup, 1) := by decide +kernel
theorem dX5_save_42 : decode cX5_save 42 = .ok (.getfield 47, 3) := by decide +kernel
theorem dX5_save_45 : decode cX5_save 45 = .ok (.iconst 1, 1) := by decide +kernel
theorem dX5_save_46 : decode cX5_save 46 = .ok (.isub, 1) := by decide +kernel
theorem dX5_save_47 : decode cX5_save 47 = .ok (.putfield 47, 3) := by decide +kernel
theorem dX5_save_50 : decode cX5_save 50 = .ok (.iconst 0, 1) := by decide +kernel
theorem dX5_save_51 : decode cX5_save 51 = .ok (.istore_n 1, 1) := by decide +kernel
theorem dX5_save_52 : decode cX5_save 52 = .ok (.iload_n 1, 1) := by decide +kernel
theorem dX5_save_53 : decode cX5_save 53 = .ok (.sipush 223, 3) := by decide +kernel
theorem dX5_save_56 : decode cX5_save 56 = .ok (.if_icmp .ge 30, 3) := by decide +kernel
theorem dX5_save_59 : decode cX5_save 59 = .ok (.aload_n 0, 1) := by decide +kernel
theorem dX5_save_60 : decode cX5_save 60 = .ok (.getfield 23, 3) := by decide +kernel
theorem dX5_save_63 : decode cX5_save 63 = .ok (.sipush 223, 3) := by decide +kernel
theorem dX5_save_66 : decode cX5_save 66 = .ok (.aload_n 0, 1) := by decide +kernel
theorem dX5_save_67 : decode cX5_save 67 = .ok (.getfield 47, 3) := by decide +kernel
theorem dX5_save_70 : decode cX5_save 70 = .ok (.imul, 1) := by decide +kernel
theorem dX5_save_71 : decode cX5_save 71 = .ok (.iload_n 1, 1) := by decide +kernel
theorem dX5_save_72 : decode cX5_save 72 = .ok (.iadd, 1) := by decide +kernel
theorem dX5_save_73 : decode cX5_save 73 = .ok (.aload_n 0, 1) := by decide +kernel
theorem dX5_save_74 : decode cX5_save 74 = .ok (.getfield 7, 3) := by decide +kernel
theorem dX5_save_77 : decode cX5_save 77 = .ok (.iload_n 1, 1) := by decide +kernel
theorem dX5_save_78 : decode cX5_save 78 = .ok (.iaload, 1) := by decide +kernel
theorem dX5_save_79 : decode cX5_save 79 = .ok (.iastore, 1) := by decide +kernel
theorem dX5_save_80 : decode cX5_save 80 = .ok (.iinc 1 1, 3) := by decide +kernel
theorem dX5_save_83 : decode cX5_save 83 = .ok (.goto (-31), 3) := by decide +kernel
theorem dX5_save_86 : decode cX5_save 86 = .ok (.aload_n 0, 1) := by decide +kernel
theorem dX5_save_87 : decode cX5_save 87 = .ok (.dup, 1) := by decide +kernel
theorem dX5_save_88 : decode cX5_save 88 = .ok (.getfield 47, 3) := by decide +kernel
theorem dX5_save_91 : decode cX5_save 91 = .ok (.iconst 1, 1) := by decide +kernel
theorem dX5_save_92 : decode cX5_save 92 = .ok (.iadd, 1) := by decide +kernel
theorem dX5_save_93 : decode cX5_save 93 = .ok (.putfield 47, 3) := by decide +kernel
theorem dX5_save_96 : decode cX5_save 96 = .ok (.return_, 1) := by decide +kernel
theorem dX5_putAside_0 : decode cX5_putAside 0 = .ok (.iconst 0, 1) := by decide +kernel
theorem dX5_putAside_1 : decode cX5_putAside 1 = .ok (.istore_n 1, 1) := by decide +kernel
theorem dX5_putAside_2 : decode cX5_putAside 2 = .ok (.iload_n 1, 1) := by decide +kernel
theorem dX5_putAside_3 : decode cX5_putAside 3 = .ok (.sipush 223, 3) := by decide +kernel
theorem dX5_putAside_6 : decode cX5_putAside 6 = .ok (.if_icmp .ge 21, 3) := by decide +kernel
theorem dX5_putAside_9 : decode cX5_putAside 9 = .ok (.aload_n 0, 1) := by decide +kernel
theorem dX5_putAside_10 : decode cX5_putAside 10 = .ok (.getfield 13, 3) := by decide +kernel
theorem dX5_putAside_13 : decode cX5_putAside 13 = .ok (.iload_n 1, 1) := by decide +kernel
theorem dX5_putAside_14 : decode cX5_putAside 14 = .ok (.aload_n 0, 1) := by decide +kernel
theorem dX5_putAside_15 : decode cX5_putAside 15 = .ok (.getfield 7, 3) := by decide +kernel
theorem dX5_putAside_18 : decode cX5_putAside 18 = .ok (.iload_n 1, 1) := by decide +kernel
theorem dX5_putAside_19 : decode cX5_putAside 19 = .ok (.iaload, 1) := by decide +kernel
theorem dX5_putAside_20 : decode cX5_putAside 20 = .ok (.iastore, 1) := by decide +kernel
theorem dX5_putAside_21 : decode cX5_putAside 21 = .ok (.iinc 1 1, 3) := by decide +kernel
theorem dX5_putAside_24 : decode cX5_putAside 24 = .ok (.goto (-22), 3) := by decide +kernel
theorem dX5_putAside_27 : decode cX5_putAside 27 = .ok (.return_, 1) := by decide +kernel
theorem dX5_putBack_0 : decode cX5_putBack 0 = .ok (.iconst 0, 1) := by decide +kernel
theorem dX5_putBack_1 : decode cX5_putBack 1 = .ok (.istore_n 1, 1) := by decide +kernel
theorem dX5_putBack_2 : decode cX5_putBack 2 = .ok (.iload_n 1, 1) := by decide +kernel
theorem dX5_putBack_3 : decode cX5_putBack 3 = .ok (.sipush 223, 3) := by decide +kernel
theorem dX5_putBack_6 : decode cX5_putBack 6 = .ok (.if_icmp .ge 21, 3) := by decide +kernel
theorem dX5_putBack_9 : decode cX5_putBack 9 = .ok (.aload_n 0, 1) := by decide +kernel
theorem dX5_putBack_10 : decode cX5_putBack 10 = .ok (.getfield 7, 3) := by decide +kernel
theorem dX5_putBack_13 : decode cX5_putBack 13 = .ok (.iload_n 1, 1) := by decide +kernel
theorem dX5_putBack_14 : decode cX5_putBack 14 = .ok (.aload_n 0, 1) := by decide +kernel
theorem dX5_putBack_15 : decode cX5_putBack 15 = .ok (.getfield 13, 3) := by decide +kernel
theorem dX5_putBack_18 : decode cX5_putBack 18 = .ok (.iload_n 1, 1) := by decide +kernel
theorem dX5_putBack_19 : decode cX5_putBack 19 = .ok (.iaload, 1) := by decide +kernel
theorem dX5_putBack_20 : decode cX5_putBack 20 = .ok (.iastore, 1) := by decide +kernel
theorem dX5_putBack_21 : decode cX5_putBack 21 = .ok (.iinc 1 1, 3) := by decide +kernel
theorem dX5_putBack_24 : decode cX5_putBack 24 = .ok (.goto (-22), 3) := by decide +kernel
theorem dX5_putBack_27 : decode cX5_putBack 27 = .ok (.return_, 1) := by decide +kernel
theorem dX5_open_0 : decode cX5_open 0 = .ok (.aload_n 0, 1) := by decide +kernel
theorem dX5_open_1 : decode cX5_open 1 = .ok (.iload_n 1, 1) := by decide +kernel
theorem dX5_open_2 : decode cX5_open 2 = .ok (.bipush 19, 2) := by decide +kernel
theorem dX5_open_4 : decode cX5_open 4 = .ok (.iload_n 2, 1) := by decide +kernel
theorem dX5_open_5 : decode cX5_open 5 = .ok (.iadd, 1) := by decide +kernel
theorem dX5_open_6 : decode cX5_open 6 = .ok (.invokevirtual 50, 3) := by decide +kernel
theorem dX5_open_9 : decode cX5_open 9 = .ok (.bipush 10, 2) := by decide +kernel
theorem dX5_open_11 : decode cX5_open 11 = .ok (.aload_n 0, 1) := by decide +kernel
theorem dX5_open_12 : decode cX5_open 12 = .ok (.iload_n 1, 1) := by decide +kernel
theorem dX5_open_13 : decode cX5_open 13 = .ok (.bipush 25, 2) := by decide +kernel
theorem dX5_open_15 : decode cX5_open 15 = .ok (.iload_n 2, 1) := by decide +kernel
theorem dX5_open_16 : decode cX5_open 16 = .ok (.iadd, 1) := by decide +kernel
theorem dX5_open_17 : decode cX5_open 17 = .ok (.invokevirtual 50, 3) := by decide +kernel
theorem dX5_open_20 : decode cX5_open 20 = .ok (.imul, 1) := by decide +kernel
theorem dX5_open_21 : decode cX5_open 21 = .ok (.isub, 1) := by decide +kernel
theorem dX5_open_22 : decode cX5_open 22 = .ok (.ireturn, 1) := by decide +kernel
theorem dX5_told_0 : decode cX5_told 0 = .ok (.iconst 0, 1) := by decide +kernel
theorem dX5_told_1 : decode cX5_told 1 = .ok (.istore_n 2, 1) := by decide +kernel
theorem dX5_told_2 : decode cX5_told 2 = .ok (.iconst 5, 1) := by decide +kernel
theorem dX5_told_3 : decode cX5_told 3 = .ok (.istore_n 3, 1) := by decide +kernel
theorem dX5_told_4 : decode cX5_told 4 = .ok (.iload_n 3, 1) := by decide +kernel
theorem dX5_told_5 : decode cX5_told 5 = .ok (.ifCond .lt 21, 3) := by decide +kernel
theorem dX5_told_8 : decode cX5_told 8 = .ok (.bipush 10, 2) := by decide +kernel
theorem dX5_told_10 : decode cX5_told 10 = .ok (.iload_n 2, 1) := by decide +kernel
theorem dX5_told_11 : decode cX5_told 11 = .ok (.imul, 1) := by decide +kernel
theorem dX5_told_12 : decode cX5_told 12 = .ok (.aload_n 0, 1) := by decide +kernel
theorem dX5_told_13 : decode cX5_told 13 = .ok (.iload_n 1, 1) := by decide +kernel
theorem dX5_told_14 : decode cX5_told 14 = .ok (.iload_n 3, 1) := by decide +kernel
theorem dX5_told_15 : decode cX5_told 15 = .ok (.invokevirtual 53, 3) := by decide +kernel
theorem dX5_told_18 : decode cX5_told 18 = .ok (.iadd, 1) := by decide +kernel
theorem dX5_told_19 : decode cX5_told 19 = .ok (.istore_n 2, 1) := by decide +kernel
theorem dX5_told_20 : decode cX5_told 20 = .ok (.iinc 3 (-1), 3) := by decide +kernel
theorem dX5_told_23 : decode cX5_told 23 = .ok (.goto (-19), 3) := by decide +kernel
theorem dX5_told_26 : decode cX5_told 26 = .ok (.iload_n 2, 1) := by decide +kernel
theorem dX5_told_27 : decode cX5_told 27 = .ok (.ireturn, 1) := by decide +kernel
theorem dX5_partsTold_0 : decode cX5_partsTold 0 = .ok (.iconst 0, 1) := by decide +kernel
theorem dX5_partsTold_1 : decode cX5_partsTold 1 = .ok (.istore_n 2, 1) := by decide +kernel
theorem dX5_partsTold_2 : decode cX5_partsTold 2 = .ok (.iconst 0, 1) := by decide +kernel
theorem dX5_partsTold_3 : decode cX5_partsTold 3 = .ok (.istore_n 3, 1) := by decide +kernel
theorem dX5_partsTold_4 : decode cX5_partsTold 4 = .ok (.iload_n 3, 1) := by decide +kernel
theorem dX5_partsTold_5 : decode cX5_partsTold 5 = .ok (.aload_n 0, 1) := by decide +kernel
theorem dX5_partsTold_6 : decode cX5_partsTold 6 = .ok (.iload_n 1, 1) := by decide +kernel
theorem dX5_partsTold_7 : decode cX5_partsTold 7 = .ok (.iconst 1, 1) := by decide +kernel
theorem dX5_partsTold_8 : decode cX5_partsTold 8 = .ok (.invokevirtual 50, 3) := by decide +kernel
theorem dX5_partsTold_11 : decode cX5_partsTold 11 = .ok (.if_icmp .ge 20, 3) := by decide +kernel
theorem dX5_partsTold_14 : decode cX5_partsTold 14 = .ok (.iload_n 2, 1) := by decide +kernel
theorem dX5_partsTold_15 : decode cX5_partsTold 15 = .ok (.aload_n 0, 1) := by decide +kernel
theorem dX5_partsTold_16 : decode cX5_partsTold 16 = .ok (.iload_n 1, 1) := by decide +kernel
theorem dX5_partsTold_17 : decode cX5_partsTold 17 = .ok (.iconst 3, 1) := by decide +kernel
theorem dX5_partsTold_18 : decode cX5_partsTold 18 = .ok (.iload_n 3, 1) := by decide +kernel
theorem dX5_partsTold_19 : decode cX5_partsTold 19 = .ok (.iadd, 1) := by decide +kernel
theorem dX5_partsTold_20 : decode cX5_partsTold 20 = .ok (.invokevirtual 50, 3) := by decide +kernel
theorem dX5_partsTold_23 : decode cX5_partsTold 23 = .ok (.iadd, 1) := by decide +kernel
theorem dX5_partsTold_24 : decode cX5_partsTold 24 = .ok (.istore_n 2, 1) := by decide +kernel
theorem dX5_partsTold_25 : decode cX5_partsTold 25 = .ok (.iinc 3 1, 3) := by decide +kernel
theorem dX5_partsTold_28 : decode cX5_partsTold 28 = .ok (.goto (-24), 3) := by decide +kernel
theorem dX5_partsTold_31 : decode cX5_partsTold 31 = .ok (.iload_n 2, 1) := by decide +kernel
theorem dX5_partsTold_32 : decode cX5_partsTold 32 = .ok (.ireturn, 1) := by decide +kernel
theorem dX5_lacks_0 : decode cX5_lacks 0 = .ok (.aload_n 0, 1) := by decide +kernel
theorem dX5_lacks_1 : decode cX5_lacks 1 = .ok (.iload_n 1, 1) := by decide +kernel
theorem dX5_lacks_2 : decode cX5_lacks 2 = .ok (.invokevirtual 56, 3) := by decide +kernel
theorem dX5_lacks_5 : decode cX5_lacks 5 = .ok (.aload_n 0, 1) := by decide +kernel
theorem dX5_lacks_6 : decode cX5_lacks 6 = .ok (.iload_n 1, 1) := by decide +kernel
theorem dX5_lacks_7 : decode cX5_lacks 7 = .ok (.invokevirtual 60, 3) := by decide +kernel
theorem dX5_lacks_10 : decode cX5_lacks 10 = .ok (.isub, 1) := by decide +kernel
theorem dX5_lacks_11 : decode cX5_lacks 11 = .ok (.ireturn, 1) := by decide +kernel
theorem dX5_ties_0 : decode cX5_ties 0 = .ok (.iconst 0, 1) := by decide +kernel
theorem dX5_ties_1 : decode cX5_ties 1 = .ok (.istore_n 2, 1) := by decide +kernel
theorem dX5_ties_2 : decode cX5_ties 2 = .ok (.bipush 19, 2) := by decide +kernel
theorem dX5_ties_4 : decode cX5_ties 4 = .ok (.istore_n 3, 1) := by decide +kernel
theorem dX5_ties_5 : decode cX5_ties 5 = .ok (.iload_n 3, 1) := by decide +kernel
theorem dX5_ties_6 : decode cX5_ties 6 = .ok (.bipush 31, 2) := by decide +kernel
theorem dX5_ties_8 : decode cX5_ties 8 = .ok (.if_icmp .ge 18, 3) := by decide +kernel
theorem dX5_ties_11 : decode cX5_ties 11 = .ok (.iload_n 2, 1) := by decide +kernel
theorem dX5_ties_12 : decode cX5_ties 12 = .ok (.aload_n 0, 1) := by decide +kernel
theorem dX5_ties_13 : decode cX5_ties 13 = .ok (.iload_n 1, 1) := by decide +kernel
theorem dX5_ties_14 : decode cX5_ties 14 = .ok (.iload_n 3, 1) := by decide +kernel
theorem dX5_ties_15 : decode cX5_ties 15 = .ok (.invokevirtual 50, 3) := by decide +kernel
theorem dX5_ties_18 : decode cX5_ties 18 = .ok (.iadd, 1) := by decide +kernel
theorem dX5_ties_19 : decode cX5_ties 19 = .ok (.istore_n 2, 1) := by decide +kernel
theorem dX5_ties_20 : decode cX5_ties 20 = .ok (.iinc 3 1, 3) := by decide +kernel
theorem dX5_ties_23 : decode cX5_ties 23 = .ok (.goto (-18), 3) := by decide +kernel
theorem dX5_ties_26 : decode cX5_ties 26 = .ok (.iload_n 2, 1) := by decide +kernel
theorem dX5_ties_27 : decode cX5_ties 27 = .ok (.ireturn, 1) := by decide +kernel
theorem dX5_allTies_0 : decode cX5_allTies 0 = .ok (.iconst 0, 1) := by decide +kernel
theorem dX5_allTies_1 : decode cX5_allTies 1 = .ok (.istore_n 1, 1) := by decide +kernel
theorem dX5_allTies_2 : decode cX5_allTies 2 = .ok (.iconst 0, 1) := by decide +kernel
theorem dX5_allTies_3 : decode cX5_allTies 3 = .ok (.istore_n 2, 1) := by decide +kernel
theorem dX5_allTies_4 : decode cX5_allTies 4 = .ok (.iload_n 2, 1) := by decide +kernel
theorem dX5_allTies_5 : decode cX5_allTies 5 = .ok (.bipush 7, 2) := by decide +kernel
theorem dX5_allTies_7 : decode cX5_allTies 7 = .ok (.if_icmp .ge 17, 3) := by decide +kernel
theorem dX5_allTies_10 : decode cX5_allTies 10 = .ok (.iload_n 1, 1) := by decide +kernel
theorem dX5_allTies_11 : decode cX5_allTies 11 = .ok (.aload_n 0, 1) := by decide +kernel
theorem dX5_allTies_12 : decode cX5_allTies 12 = .ok (.iload_n 2, 1) := by decide +kernel
theorem dX5_allTies_13 : decode cX5_allTies 13 = .ok (.invokevirtual 63, 3) := by decide +kernel
theorem dX5_allTies_16 : decode cX5_allTies 16 = .ok (.iadd, 1) := by decide +kernel
theorem dX5_allTies_17 : decode cX5_allTies 17 = .ok (.istore_n 1, 1) := by decide +kernel
theorem dX5_allTies_18 : decode cX5_allTies 18 = .ok (.iinc 2 1, 3) := by decide +kernel
theorem dX5_allTies_21 : decode cX5_allTies 21 = .ok (.goto (-17), 3) := by decide +kernel
theorem dX5_allTies_24 : decode cX5_allTies 24 = .ok (.iload_n 1, 1) := by decide +kernel
theorem dX5_allTies_25 : decode cX5_allTies 25 = .ok (.ireturn, 1) := by decide +kernel
theorem dX5_lays_0 : decode cX5_lays 0 = .ok (.aload_n 0, 1) := by decide +kernel
theorem dX5_lays_1 : decode cX5_lays 1 = .ok (.iload_n 1, 1) := by decide +kernel
theorem dX5_lays_2 : decode cX5_lays 2 = .ok (.invokevirtual 60, 3) := by decide +kernel
theorem dX5_lays_5 : decode cX5_lays 5 = .ok (.iload_n 2, 1) := by decide +kernel
theorem dX5_lays_6 : decode cX5_lays 6 = .ok (.iadd, 1) := by decide +kernel
theorem dX5_lays_7 : decode cX5_lays 7 = .ok (.ldc 66, 2) := by decide +kernel
theorem dX5_lays_9 : decode cX5_lays 9 = .ok (.if_icmp .le 5, 3) := by decide +kernel
theorem dX5_lays_12 : decode cX5_lays 12 = .ok (.iconst 1, 1) := by decide +kernel
theorem dX5_lays_13 : decode cX5_lays 13 = .ok (.ireturn, 1) := by decide +kernel
theorem dX5_lays_14 : decode cX5_lays 14 = .ok (.iload_n 2, 1) := by decide +kernel
theorem dX5_lays_15 : decode cX5_lays 15 = .ok (.istore_n 3, 1) := by decide +kernel
theorem dX5_lays_16 : decode cX5_lays 16 = .ok (.iconst 0, 1) := by decide +kernel
theorem dX5_lays_17 : decode cX5_lays 17 = .ok (.istore 4, 2) := by decide +kernel
theorem dX5_lays_19 : decode cX5_lays 19 = .ok (.iconst 0, 1) := by decide +kernel
theorem dX5_lays_20 : decode cX5_lays 20 = .ok (.istore 5, 2) := by decide +kernel
theorem dX5_lays_22 : decode cX5_lays 22 = .ok (.iconst 0, 1) := by decide +kernel
theorem dX5_lays_23 : decode cX5_lays 23 = .ok (.istore 6, 2) := by decide +kernel
theorem dX5_lays_25 : decode cX5_lays 25 = .ok (.iload 6, 2) := by decide +kernel
theorem dX5_lays_27 : decode cX5_lays 27 = .ok (.bipush 6, 2) := by decide +kernel
theorem dX5_lays_29 : decode cX5_lays 29 = .ok (.if_icmp .ge 132, 3) := by decide +kernel
theorem dX5_lays_32 : decode cX5_lays 32 = .ok (.aload_n 0, 1) := by decide +kernel
theorem dX5_lays_33 : decode cX5_lays 33 = .ok (.getfield 29, 3) := by decide +kernel
theorem dX5_lays_36 : decode cX5_lays 36 = .ok (.iload 6, 2) := by decide +kernel
theorem dX5_lays_38 : decode cX5_lays 38 = .ok (.iload_n 3, 1) := by decide +kernel
theorem dX5_lays_39 : decode cX5_lays 39 = .ok (.bipush 10, 2) := by decide +kernel
theorem dX5_lays_41 : decode cX5_lays 41 = .ok (.irem, 1) := by decide +kernel
theorem dX5_lays_42 : decode cX5_lays 42 = .ok (.iload 4, 2) := by decide +kernel
theorem dX5_lays_44 : decode cX5_lays 44 = .ok (.iadd, 1) := by decide +kernel
theorem dX5_lays_45 : decode cX5_lays 45 = .ok (.iastore, 1) := by decide +kernel
theorem dX5_lays_46 : decode cX5_lays 46 = .ok (.aload_n 0, 1) := by decide +kernel
theorem dX5_lays_47 : decode cX5_lays 47 = .ok (.iload_n 1, 1) := by decide +kernel
theorem dX5_lays_48 : decode cX5_lays 48 = .ok (.iload 6, 2) := by decide +kernel
theorem dX5_lays_50 : decode cX5_lays 50 = .ok (.invokevirtual 53, 3) := by decide +kernel
theorem dX5_lays_53 : decode cX5_lays 53 = .ok (.aload_n 0, 1) := by decide +kernel
theorem dX5_lays_54 : decode cX5_lays 54 = .ok (.getfield 29, 3) := by decide +kernel
theorem dX5_lays_57 : decode cX5_lays 57 = .ok (.iload 6, 2) := by decide +kernel
theorem dX5_lays_59 : decode cX5_lays 59 = .ok (.iaload, 1) := by decide +kernel
theorem dX5_lays_60 : decode cX5_lays 60 = .ok (.iadd, 1) := by decide +kernel
theorem dX5_lays_61 : decode cX5_lays 61 = .ok (.bipush 10, 2) := by decide +kernel
theorem dX5_lays_63 : decode cX5_lays 63 = .ok (.idiv, 1) := by decide +kernel
theorem dX5_lays_64 : decode cX5_lays 64 = .ok (.istore 4, 2) := by decide +kernel
theorem dX5_lays_66 : decode cX5_lays 66 = .ok (.aload_n 0, 1) := by decide +kernel
theorem dX5_lays_67 : decode cX5_lays 67 = .ok (.getfield 32, 3) := by decide +kernel
theorem dX5_lays_70 : decode cX5_lays 70 = .ok (.iload 6, 2) := by decide +kernel
theorem dX5_lays_72 : decode cX5_lays 72 = .ok (.iload 4, 2) := by decide +kernel
theorem dX5_lays_74 : decode cX5_lays 74 = .ok (.iastore, 1) := by decide +kernel
theorem dX5_lays_75 : decode cX5_lays 75 = .ok (.iload_n 3, 1) := by decide +kernel
theorem dX5_lays_76 : decode cX5_lays 76 = .ok (.bipush 10, 2) := by decide +kernel
theorem dX5_lays_78 : decode cX5_lays 78 = .ok (.idiv, 1) := by decide +kernel
theorem dX5_lays_79 : decode cX5_lays 79 = .ok (.istore_n 3, 1) := by decide +kernel
theorem dX5_lays_80 : decode cX5_lays 80 = .ok (.aload_n 0, 1) := by decide +kernel
theorem dX5_lays_81 : decode cX5_lays 81 = .ok (.getfield 29, 3) := by decide +kernel
theorem dX5_lays_84 : decode cX5_lays 84 = .ok (.iload 6, 2) := by decide +kernel
theorem dX5_lays_86 : decode cX5_lays 86 = .ok (.iaload, 1) := by decide +kernel
theorem dX5_lays_87 : decode cX5_lays 87 = .ok (.aload_n 0, 1) := by decide +kernel
theorem dX5_lays_88 : decode cX5_lays 88 = .ok (.getfield 32, 3) := by decide +kernel
theorem dX5_lays_91 : decode cX5_lays 91 = .ok (.iload 6, 2) := by decide +kernel
theorem dX5_lays_93 : decode cX5_lays 93 = .ok (.iaload, 1) := by decide +kernel
theorem dX5_lays_94 : decode cX5_lays 94 = .ok (.iadd, 1) := by decide +kernel
theorem dX5_lays_95 : decode cX5_lays 95 = .ok (.istore 7, 2) := by decide +kernel
theorem dX5_lays_97 : decode cX5_lays 97 = .ok (.aload_n 0, 1) := by decide +kernel
theorem dX5_lays_98 : decode cX5_lays 98 = .ok (.iload_n 1, 1) := by decide +kernel
theorem dX5_lays_99 : decode cX5_lays 99 = .ok (.bipush 19, 2) := by decide +kernel
theorem dX5_lays_101 : decode cX5_lays 101 = .ok (.iload 6, 2) := by decide +kernel
theorem dX5_lays_103 : decode cX5_lays 103 = .ok (.iadd, 1) := by decide +kernel
theorem dX5_lays_104 : decode cX5_lays 104 = .ok (.invokevirtual 50, 3) := by decide +kernel
theorem dX5_lays_107 : decode cX5_lays 107 = .ok (.aload_n 0, 1) := by decide +kernel
theorem dX5_lays_108 : decode cX5_lays 108 = .ok (.iload_n 1, 1) := by decide +kernel
theorem dX5_lays_109 : decode cX5_lays 109 = .ok (.bipush 25, 2) := by decide +kernel
theorem dX5_lays_111 : decode cX5_lays 111 = .ok (.iload 6, 2) := by decide +kernel
theorem dX5_lays_113 : decode cX5_lays 113 = .ok (.iadd, 1) := by decide +kernel
theorem dX5_lays_114 : decode cX5_lays 114 = .ok (.invokevirtual 50, 3) := by decide +kernel
theorem dX5_lays_117 : decode cX5_lays 117 = .ok (.iadd, 1) := by decide +kernel
theorem dX5_lays_118 : decode cX5_lays 118 = .ok (.iload 7, 2) := by decide +kernel
theorem dX5_lays_120 : decode cX5_lays 120 = .ok (.iadd, 1) := by decide +kernel
theorem dX5_lays_121 : decode cX5_lays 121 = .ok (.aload_n 0, 1) := by decide +kernel
theorem dX5_lays_122 : decode cX5_lays 122 = .ok (.getfield 7, 3) := by decide +kernel
theorem dX5_lays_125 : decode cX5_lays 125 = .ok (.iconst 5, 1) := by decide +kernel
theorem dX5_lays_126 : decode cX5_lays 126 = .ok (.iaload, 1) := by decide +kernel
theorem dX5_lays_127 : decode cX5_lays 127 = .ok (.if_icmp .le 7, 3) := by decide +kernel
theorem dX5_lays_130 : decode cX5_lays 130 = .ok (.iconst 1, 1) := by decide +kernel
theorem dX5_lays_131 : decode cX5_lays 131 = .ok (.goto 4, 3) := by decide +kernel
theorem dX5_lays_134 : decode cX5_lays 134 = .ok (.iconst 0, 1) := by decide +kernel
theorem dX5_lays_135 : decode cX5_lays 135 = .ok (.istore 8, 2) := by decide +kernel
theorem dX5_lays_137 : decode cX5_lays 137 = .ok (.iload 7, 2) := by decide +kernel
theorem dX5_lays_139 : decode cX5_lays 139 = .ok (.ifCond .le 12, 3) := by decide +kernel
theorem dX5_lays_142 : decode cX5_lays 142 = .ok (.iload 8, 2) := by decide +kernel
theorem dX5_lays_144 : decode cX5_lays 144 = .ok (.ifCond .eq 7, 3) := by decide +kernel
theorem dX5_lays_147 : decode cX5_lays 147 = .ok (.iconst 2, 1) := by decide +kernel
theorem dX5_lays_148 : decode cX5_lays 148 = .ok (.goto 5, 3) := by decide +kernel
theorem dX5_lays_151 : decode cX5_lays 151 = .ok (.iload 5, 2) := by decide +kernel
theorem dX5_lays_153 : decode cX5_lays 153 = .ok (.istore 5, 2) := by decide +kernel
theorem dX5_lays_155 : decode cX5_lays 155 = .ok (.iinc 6 1, 3) := by decide +kernel
theorem dX5_lays_158 : decode cX5_lays 158 = .ok (.goto (-133), 3) := by decide +kernel
theorem dX5_lays_161 : decode cX5_lays 161 = .ok (.iload 5, 2) := by decide +kernel
theorem dX5_lays_163 : decode cX5_lays 163 = .ok (.ireturn, 1) := by decide +kernel
theorem dX5_knits_0 : decode cX5_knits 0 = .ok (.iconst 0, 1) := by decide +kernel
theorem dX5_knits_1 : decode cX5_knits 1 = .ok (.istore_n 2, 1) := by decide +kernel
theorem dX5_knits_2 : decode cX5_knits 2 = .ok (.iconst 0, 1) := by decide +kernel
theorem dX5_knits_3 : decode cX5_knits 3 = .ok (.istore_n 3, 1) := by decide +kernel
theorem dX5_knits_4 : decode cX5_knits 4 = .ok (.iload_n 3, 1) := by decide +kernel
theorem dX5_knits_5 : decode cX5_knits 5 = .ok (.bipush 6, 2) := by decide +kernel
theorem dX5_knits_7 : decode cX5_knits 7 = .ok (.if_icmp .ge 77, 3) := by decide +kernel
theorem dX5_knits_10 : decode cX5_knits 10 = .ok (.aload_n 0, 1) := by decide +kernel
theorem dX5_knits_11 : decode cX5_knits 11 = .ok (.getfield 7, 3) := by decide +kernel
theorem dX5_knits_14 : decode cX5_knits 14 = .ok (.iload_n 1, 1) := by decide +kernel
theorem dX5_knits_15 : decode cX5_knits 15 = .ok (.bipush 19, 2) := by decide +kernel
theorem dX5_knits_17 : decode cX5_knits 17 = .ok (.iload_n 3, 1) := by decide +kernel
theorem dX5_knits_18 : decode cX5_knits 18 = .ok (.iadd, 1) := by decide +kernel
theorem dX5_knits_19 : decode cX5_knits 19 = .ok (.invokestatic 43, 3) := by decide +kernel
theorem dX5_knits_22 : decode cX5_knits 22 = .ok (.dup2, 1) := by decide +kernel
theorem dX5_knits_23 : decode cX5_knits 23 = .ok (.iaload, 1) := by decide +kernel
theorem dX5_knits_24 : decode cX5_knits 24 = .ok (.aload_n 0, 1) := by decide +kernel
theorem dX5_knits_25 : decode cX5_knits 25 = .ok (.getfield 29, 3) := by decide +kernel
theorem dX5_knits_28 : decode cX5_knits 28 = .ok (.iload_n 3, 1) := by decide +kernel
theorem dX5_knits_29 : decode cX5_knits 29 = .ok (.iaload, 1) := by decide +kernel
theorem dX5_knits_30 : decode cX5_knits 30 = .ok (.iadd, 1) := by decide +kernel
theorem dX5_knits_31 : decode cX5_knits 31 = .ok (.iastore, 1) := by decide +kernel
theorem dX5_knits_32 : decode cX5_knits 32 = .ok (.aload_n 0, 1) := by decide +kernel
theorem dX5_knits_33 : decode cX5_knits 33 = .ok (.getfield 7, 3) := by decide +kernel
theorem dX5_knits_36 : decode cX5_knits 36 = .ok (.iload_n 1, 1) := by decide +kernel
theorem dX5_knits_37 : decode cX5_knits 37 = .ok (.bipush 25, 2) := by decide +kernel
theorem dX5_knits_39 : decode cX5_knits 39 = .ok (.iload_n 3, 1) := by decide +kernel
theorem dX5_knits_40 : decode cX5_knits 40 = .ok (.iadd, 1) := by decide +kernel
theorem dX5_knits_41 : decode cX5_knits 41 = .ok (.invokestatic 43, 3) := by decide +kernel
theorem dX5_knits_44 : decode cX5_knits 44 = .ok (.dup2, 1) := by decide +kernel
theorem dX5_knits_45 : decode cX5_knits 45 = .ok (.iaload, 1) := by decide +kernel
theorem dX5_knits_46 : decode cX5_knits 46 = .ok (.aload_n 0, 1) := by decide +kernel
theorem dX5_knits_47 : decode cX5_knits 47 = .ok (.getfield 32, 3) := by decide +kernel
theorem dX5_knits_50 : decode cX5_knits 50 = .ok (.iload_n 3, 1) := by decide +kernel
theorem dX5_knits_51 : decode cX5_knits 51 = .ok (.iaload, 1) := by decide +kernel
theorem dX5_knits_52 : decode cX5_knits 52 = .ok (.iadd, 1) := by decide +kernel
theorem dX5_knits_53 : decode cX5_knits 53 = .ok (.iastore, 1) := by decide +kernel
theorem dX5_knits_54 : decode cX5_knits 54 = .ok (.aload_n 0, 1) := by decide +kernel
theorem dX5_knits_55 : decode cX5_knits 55 = .ok (.getfield 7, 3) := by decide +kernel
theorem dX5_knits_58 : decode cX5_knits 58 = .ok (.iconst 0, 1) := by decide +kernel
theorem dX5_knits_59 : decode cX5_knits 59 = .ok (.dup2, 1) := by decide +kernel
theorem dX5_knits_60 : decode cX5_knits 60 = .ok (.iaload, 1) := by decide +kernel
theorem dX5_knits_61 : decode cX5_knits 61 = .ok (.aload_n 0, 1) := by decide +kernel
theorem dX5_knits_62 : decode cX5_knits 62 = .ok (.getfield 29, 3) := by decide +kernel
theorem dX5_knits_65 : decode cX5_knits 65 = .ok (.iload_n 3, 1) := by decide +kernel
theorem dX5_knits_66 : decode cX5_knits 66 = .ok (.iaload, 1) := by decide +kernel
theorem dX5_knits_67 : decode cX5_knits 67 = .ok (.iadd, 1) := by decide +kernel
theorem dX5_knits_68 : decode cX5_knits 68 = .ok (.iastore, 1) := by decide +kernel
theorem dX5_knits_69 : decode cX5_knits 69 = .ok (.iload_n 2, 1) := by decide +kernel
theorem dX5_knits_70 : decode cX5_knits 70 = .ok (.aload_n 0, 1) := by decide +kernel
theorem dX5_knits_71 : decode cX5_knits 71 = .ok (.getfield 32, 3) := by decide +kernel
theorem dX5_knits_74 : decode cX5_knits 74 = .ok (.iload_n 3, 1) := by decide +kernel
theorem dX5_knits_75 : decode cX5_knits 75 = .ok (.iaload, 1) := by decide +kernel
theorem dX5_knits_76 : decode cX5_knits 76 = .ok (.iadd, 1) := by decide +kernel
theorem dX5_knits_77 : decode cX5_knits 77 = .ok (.istore_n 2, 1) := by decide +kernel
theorem dX5_knits_78 : decode cX5_knits 78 = .ok (.iinc 3 1, 3) := by decide +kernel
theorem dX5_knits_81 : decode cX5_knits 81 = .ok (.goto (-77), 3) := by decide +kernel
theorem dX5_knits_84 : decode cX5_knits 84 = .ok (.aload_n 0, 1) := by decide +kernel
theorem dX5_knits_85 : decode cX5_knits 85 = .ok (.getfield 7, 3) := by decide +kernel
theorem dX5_knits_88 : decode cX5_knits 88 = .ok (.iconst 1, 1) := by decide +kernel
theorem dX5_knits_89 : decode cX5_knits 89 = .ok (.dup2, 1) := by decide +kernel
theorem dX5_knits_90 : decode cX5_knits 90 = .ok (.iaload, 1) := by decide +kernel
theorem dX5_knits_91 : decode cX5_knits 91 = .ok (.iload_n 2, 1) := by decide +kernel
theorem dX5_knits_92 : decode cX5_knits 92 = .ok (.iadd, 1) := by decide +kernel
theorem dX5_knits_93 : decode cX5_knits 93 = .ok (.iastore, 1) := by decide +kernel
theorem dX5_knits_94 : decode cX5_knits 94 = .ok (.iload_n 2, 1) := by decide +kernel
theorem dX5_knits_95 : decode cX5_knits 95 = .ok (.ireturn, 1) := by decide +kernel
theorem dX5_reasonFor_0 : decode cX5_reasonFor 0 = .ok (.aload_n 0, 1) := by decide +kernel
theorem dX5_reasonFor_1 : decode cX5_reasonFor 1 = .ok (.iload_n 1, 1) := by decide +kernel
theorem dX5_reasonFor_2 : decode cX5_reasonFor 2 = .ok (.iconst 1, 1) := by decide +kernel
theorem dX5_reasonFor_3 : decode cX5_reasonFor 3 = .ok (.invokevirtual 50, 3) := by decide +kernel
theorem dX5_reasonFor_6 : decode cX5_reasonFor 6 = .ok (.bipush 16, 2) := by decide +kernel
theorem dX5_reasonFor_8 : decode cX5_reasonFor 8 = .ok (.if_icmp .ne 7, 3) := by decide +kernel
theorem dX5_reasonFor_11 : decode cX5_reasonFor 11 = .ok (.iconst 3, 1) := by decide +kernel
theorem dX5_reasonFor_12 : decode cX5_reasonFor 12 = .ok (.goto 9, 3) := by decide +kernel
theorem dX5_reasonFor_15 : decode cX5_reasonFor 15 = .ok (.aload_n 0, 1) := by decide +kernel
theorem dX5_reasonFor_16 : decode cX5_reasonFor 16 = .ok (.iload_n 1, 1) := by decide +kernel
theorem dX5_reasonFor_17 : decode cX5_reasonFor 17 = .ok (.iload_n 2, 1) := by decide +kernel
theorem dX5_reasonFor_18 : decode cX5_reasonFor 18 = .ok (.invokevirtual 67, 3) := by decide +kernel
theorem dX5_reasonFor_21 : decode cX5_reasonFor 21 = .ok (.ireturn, 1) := by decide +kernel
theorem dX5_tiesPart_0 : decode cX5_tiesPart 0 = .ok (.aload_n 0, 1) := by decide +kernel
theorem dX5_tiesPart_1 : decode cX5_tiesPart 1 = .ok (.iload_n 1, 1) := by decide +kernel
theorem dX5_tiesPart_2 : decode cX5_tiesPart 2 = .ok (.iload_n 2, 1) := by decide +kernel
theorem dX5_tiesPart_3 : decode cX5_tiesPart 3 = .ok (.invokevirtual 70, 3) := by decide +kernel
theorem dX5_tiesPart_6 : decode cX5_tiesPart 6 = .ok (.istore_n 3, 1) := by decide +kernel
theorem dX5_tiesPart_7 : decode cX5_tiesPart 7 = .ok (.iload_n 3, 1) := by decide +kernel
theorem dX5_tiesPart_8 : decode cX5_tiesPart 8 = .ok (.ifCond .le 15, 3) := by decide +kernel
theorem dX5_tiesPart_11 : decode cX5_tiesPart 11 = .ok (.aload_n 0, 1) := by decide +kernel
theorem dX5_tiesPart_12 : decode cX5_tiesPart 12 = .ok (.getfield 7, 3) := by decide +kernel
theorem dX5_tiesPart_15 : decode cX5_tiesPart 15 = .ok (.iconst 4, 1) := by decide +kernel
theorem dX5_tiesPart_16 : decode cX5_tiesPart 16 = .ok (.dup2, 1) := by decide +kernel
theorem dX5_tiesPart_17 : decode cX5_tiesPart 17 = .ok (.iaload, 1) := by decide +kernel
theorem dX5_tiesPart_18 : decode cX5_tiesPart 18 = .ok (.iconst 1, 1) := by decide +kernel
theorem dX5_tiesPart_19 : decode cX5_tiesPart 19 = .ok (.iadd, 1) := by decide +kernel
theorem dX5_tiesPart_20 : decode cX5_tiesPart 20 = .ok (.iastore, 1) := by decide +kernel
theorem dX5_tiesPart_21 : decode cX5_tiesPart 21 = .ok (.iload_n 3, 1) := by decide +kernel
theorem dX5_tiesPart_22 : decode cX5_tiesPart 22 = .ok (.ireturn, 1) := by decide +kernel
theorem dX5_tiesPart_23 : decode cX5_tiesPart 23 = .ok (.aload_n 0, 1) := by decide +kernel
theorem dX5_tiesPart_24 : decode cX5_tiesPart 24 = .ok (.getfield 7, 3) := by decide +kernel
theorem dX5_tiesPart_27 : decode cX5_tiesPart 27 = .ok (.iload_n 1, 1) := by decide +kernel
theorem dX5_tiesPart_28 : decode cX5_tiesPart 28 = .ok (.iconst 3, 1) := by decide +kernel
theorem dX5_tiesPart_29 : decode cX5_tiesPart 29 = .ok (.aload_n 0, 1) := by decide +kernel
theorem dX5_tiesPart_30 : decode cX5_tiesPart 30 = .ok (.iload_n 1, 1) := by decide +kernel
theorem dX5_tiesPart_31 : decode cX5_tiesPart 31 = .ok (.iconst 1, 1) := by decide +kernel
theorem dX5_tiesPart_32 : decode cX5_tiesPart 32 = .ok (.invokevirtual 50, 3) := by decide +kernel
theorem dX5_tiesPart_35 : decode cX5_tiesPart 35 = .ok (.iadd, 1) := by decide +kernel
theorem dX5_tiesPart_36 : decode cX5_tiesPart 36 = .ok (.invokestatic 43, 3) := by decide +kernel
theorem dX5_tiesPart_39 : decode cX5_tiesPart 39 = .ok (.iload_n 2, 1) := by decide +kernel
theorem dX5_tiesPart_40 : decode cX5_tiesPart 40 = .ok (.iastore, 1) := by decide +kernel
theorem dX5_tiesPart_41 : decode cX5_tiesPart 41 = .ok (.aload_n 0, 1) := by decide +kernel
theorem dX5_tiesPart_42 : decode cX5_tiesPart 42 = .ok (.getfield 7, 3) := by decide +kernel
theorem dX5_tiesPart_45 : decode cX5_tiesPart 45 = .ok (.iload_n 1, 1) := by decide +kernel
theorem dX5_tiesPart_46 : decode cX5_tiesPart 46 = .ok (.iconst 1, 1) := by decide +kernel
theorem dX5_tiesPart_47 : decode cX5_tiesPart 47 = .ok (.invokestatic 43, 3) := by decide +kernel
theorem dX5_tiesPart_50 : decode cX5_tiesPart 50 = .ok (.dup2, 1) := by decide +kernel
theorem dX5_tiesPart_51 : decode cX5_tiesPart 51 = .ok (.iaload, 1) := by decide +kernel
theorem dX5_tiesPart_52 : decode cX5_tiesPart 52 = .ok (.iconst 1, 1) := by decide +kernel
theorem dX5_tiesPart_53 : decode cX5_tiesPart 53 = .ok (.iadd, 1) := by decide +kernel
theorem dX5_tiesPart_54 : decode cX5_tiesPart 54 = .ok (.iastore, 1) := by decide +kernel
theorem dX5_tiesPart_55 : decode cX5_tiesPart 55 = .ok (.bipush 10, 2) := by decide +kernel
theorem dX5_tiesPart_57 : decode cX5_tiesPart 57 = .ok (.aload_n 0, 1) := by decide +kernel
theorem dX5_tiesPart_58 : decode cX5_tiesPart 58 = .ok (.iload_n 1, 1) := by decide +kernel
theorem dX5_tiesPart_59 : decode cX5_tiesPart 59 = .ok (.invokevirtual 73, 3) := by decide +kernel
theorem dX5_tiesPart_62 : decode cX5_tiesPart 62 = .ok (.iadd, 1) := by decide +kernel
theorem dX5_tiesPart_63 : decode cX5_tiesPart 63 = .ok (.ireturn, 1) := by decide +kernel
theorem dX5_adds_0 : decode cX5_adds 0 = .ok (.aload_n 0, 1) := by decide +kernel
theorem dX5_adds_1 : decode cX5_adds 1 = .ok (.iload_n 1, 1) := by decide +kernel
theorem dX5_adds_2 : decode cX5_adds 2 = .ok (.invokevirtual 60, 3) := by decide +kernel
theorem dX5_adds_5 : decode cX5_adds 5 = .ok (.ifCond .ne 7, 3) := by decide +kernel
theorem dX5_adds_8 : decode cX5_adds 8 = .ok (.iconst 0, 1) := by decide +kernel
theorem dX5_adds_9 : decode cX5_adds 9 = .ok (.goto 13, 3) := by decide +kernel
theorem dX5_adds_12 : decode cX5_adds 12 = .ok (.aload_n 0, 1) := by decide +kernel
theorem dX5_adds_13 : decode cX5_adds 13 = .ok (.iload_n 2, 1) := by decide +kernel
theorem dX5_adds_14 : decode cX5_adds 14 = .ok (.aload_n 0, 1) := by decide +kernel
theorem dX5_adds_15 : decode cX5_adds 15 = .ok (.iload_n 1, 1) := by decide +kernel
theorem dX5_adds_16 : decode cX5_adds 16 = .ok (.invokevirtual 60, 3) := by decide +kernel
theorem dX5_adds_19 : decode cX5_adds 19 = .ok (.invokevirtual 76, 3) := by decide +kernel
theorem dX5_adds_22 : decode cX5_adds 22 = .ok (.ireturn, 1) := by decide +kernel
theorem dX5_slips_0 : decode cX5_slips 0 = .ok (.aload_n 0, 1) := by decide +kernel
theorem dX5_slips_1 : decode cX5_slips 1 = .ok (.iload_n 1, 1) := by decide +kernel
theorem dX5_slips_2 : decode cX5_slips 2 = .ok (.iload_n 2, 1) := by decide +kernel
theorem dX5_slips_3 : decode cX5_slips 3 = .ok (.invokevirtual 53, 3) := by decide +kernel
theorem dX5_slips_6 : decode cX5_slips 6 = .ok (.ifCond .ne 15, 3) := by decide +kernel
theorem dX5_slips_9 : decode cX5_slips 9 = .ok (.aload_n 0, 1) := by decide +kernel
theorem dX5_slips_10 : decode cX5_slips 10 = .ok (.getfield 7, 3) := by decide +kernel
theorem dX5_slips_13 : decode cX5_slips 13 = .ok (.iconst 4, 1) := by decide +kernel
theorem dX5_slips_14 : decode cX5_slips 14 = .ok (.dup2, 1) := by decide +kernel
theorem dX5_slips_15 : decode cX5_slips 15 = .ok (.iaload, 1) := by decide +kernel
theorem dX5_slips_16 : decode cX5_slips 16 = .ok (.iconst 1, 1) := by decide +kernel
theorem dX5_slips_17 : decode cX5_slips 17 = .ok (.iadd, 1) := by decide +kernel
theorem dX5_slips_18 : decode cX5_slips 18 = .ok (.iastore, 1) := by decide +kernel
theorem dX5_slips_19 : decode cX5_slips 19 = .ok (.iconst (-1), 1) := by decide +kernel
theorem dX5_slips_20 : decode cX5_slips 20 = .ok (.ireturn, 1) := by decide +kernel
theorem dX5_slips_21 : decode cX5_slips 21 = .ok (.aload_n 0, 1) := by decide +kernel
theorem dX5_slips_22 : decode cX5_slips 22 = .ok (.getfield 7, 3) := by decide +kernel
theorem dX5_slips_25 : decode cX5_slips 25 = .ok (.iload_n 1, 1) := by decide +kernel
theorem dX5_slips_26 : decode cX5_slips 26 = .ok (.bipush 19, 2) := by decide +kernel
theorem dX5_slips_28 : decode cX5_slips 28 = .ok (.iload_n 2, 1) := by decide +kernel
theorem dX5_slips_29 : decode cX5_slips 29 = .ok (.iadd, 1) := by decide +kernel
theorem dX5_slips_30 : decode cX5_slips 30 = .ok (.invokestatic 43, 3) := by decide +kernel
theorem dX5_slips_33 : decode cX5_slips 33 = .ok (.dup2, 1) := by decide +kernel
theorem dX5_slips_34 : decode cX5_slips 34 = .ok (.iaload, 1) := by decide +kernel
theorem dX5_slips_35 : decode cX5_slips 35 = .ok (.iconst 1, 1) := by decide +kernel
theorem dX5_slips_36 : decode cX5_slips 36 = .ok (.isub, 1) := by decide +kernel
theorem dX5_slips_37 : decode cX5_slips 37 = .ok (.iastore, 1) := by decide +kernel
theorem dX5_slips_38 : decode cX5_slips 38 = .ok (.aload_n 0, 1) := by decide +kernel
theorem dX5_slips_39 : decode cX5_slips 39 = .ok (.getfield 7, 3) := by decide +kernel
theorem dX5_slips_42 : decode cX5_slips 42 = .ok (.iload_n 1, 1) := by decide +kernel
theorem dX5_slips_43 : decode cX5_slips 43 = .ok (.iconst 2, 1) := by decide +kernel
theorem dX5_slips_44 : decode cX5_slips 44 = .ok (.invokestatic 43, 3) := by decide +kernel
theorem dX5_slips_47 : decode cX5_slips 47 = .ok (.dup2, 1) := by decide +kernel
theorem dX5_slips_48 : decode cX5_slips 48 = .ok (.iaload, 1) := by decide +kernel
theorem dX5_slips_49 : decode cX5_slips 49 = .ok (.iconst 1, 1) := by decide +kernel
theorem dX5_slips_50 : decode cX5_slips 50 = .ok (.iadd, 1) := by decide +kernel
theorem dX5_slips_51 : decode cX5_slips 51 = .ok (.iastore, 1) := by decide +kernel
theorem dX5_slips_52 : decode cX5_slips 52 = .ok (.aload_n 0, 1) := by decide +kernel
theorem dX5_slips_53 : decode cX5_slips 53 = .ok (.getfield 7, 3) := by decide +kernel
theorem dX5_slips_56 : decode cX5_slips 56 = .ok (.iconst 2, 1) := by decide +kernel
theorem dX5_slips_57 : decode cX5_slips 57 = .ok (.dup2, 1) := by decide +kernel
theorem dX5_slips_58 : decode cX5_slips 58 = .ok (.iaload, 1) := by decide +kernel
theorem dX5_slips_59 : decode cX5_slips 59 = .ok (.iconst 1, 1) := by decide +kernel
theorem dX5_slips_60 : decode cX5_slips 60 = .ok (.iadd, 1) := by decide +kernel
theorem dX5_slips_61 : decode cX5_slips 61 = .ok (.iastore, 1) := by decide +kernel
theorem dX5_slips_62 : decode cX5_slips 62 = .ok (.aload_n 0, 1) := by decide +kernel
theorem dX5_slips_63 : decode cX5_slips 63 = .ok (.iload_n 1, 1) := by decide +kernel
theorem dX5_slips_64 : decode cX5_slips 64 = .ok (.iload_n 2, 1) := by decide +kernel
theorem dX5_slips_65 : decode cX5_slips 65 = .ok (.invokevirtual 53, 3) := by decide +kernel
theorem dX5_slips_68 : decode cX5_slips 68 = .ok (.ireturn, 1) := by decide +kernel
theorem dX5_mends_0 : decode cX5_mends 0 = .ok (.aload_n 0, 1) := by decide +kernel
theorem dX5_mends_1 : decode cX5_mends 1 = .ok (.iload_n 1, 1) := by decide +kernel
theorem dX5_mends_2 : decode cX5_mends 2 = .ok (.invokevirtual 79, 3) := by decide +kernel
theorem dX5_mends_5 : decode cX5_mends 5 = .ok (.istore_n 2, 1) := by decide +kernel
theorem dX5_mends_6 : decode cX5_mends 6 = .ok (.iload_n 2, 1) := by decide +kernel
theorem dX5_mends_7 : decode cX5_mends 7 = .ok (.ifCond .ne 7, 3) := by decide +kernel
theorem dX5_mends_10 : decode cX5_mends 10 = .ok (.iconst 0, 1) := by decide +kernel
theorem dX5_mends_11 : decode cX5_mends 11 = .ok (.goto 9, 3) := by decide +kernel
theorem dX5_mends_14 : decode cX5_mends 14 = .ok (.aload_n 0, 1) := by decide +kernel
theorem dX5_mends_15 : decode cX5_mends 15 = .ok (.iload_n 1, 1) := by decide +kernel
theorem dX5_mends_16 : decode cX5_mends 16 = .ok (.iload_n 2, 1) := by decide +kernel
theorem dX5_mends_17 : decode cX5_mends 17 = .ok (.invokevirtual 67, 3) := by decide +kernel
theorem dX5_mends_20 : decode cX5_mends 20 = .ok (.istore_n 3, 1) := by decide +kernel
theorem dX5_mends_21 : decode cX5_mends 21 = .ok (.iload_n 3, 1) := by decide +kernel
theorem dX5_mends_22 : decode cX5_mends 22 = .ok (.ifCond .le 16, 3) := by decide +kernel
theorem dX5_mends_25 : decode cX5_mends 25 = .ok (.aload_n 0, 1) := by decide +kernel
theorem dX5_mends_26 : decode cX5_mends 26 = .ok (.getfield 7, 3) := by decide +kernel
theorem dX5_mends_29 : decode cX5_mends 29 = .ok (.iconst 4, 1) := by decide +kernel
theorem dX5_mends_30 : decode cX5_mends 30 = .ok (.dup2, 1) := by decide +kernel
theorem dX5_mends_31 : decode cX5_mends 31 = .ok (.iaload, 1) := by decide +kernel
theorem dX5_mends_32 : decode cX5_mends 32 = .ok (.iconst 1, 1) := by decide +kernel
theorem dX5_mends_33 : decode cX5_mends 33 = .ok (.iadd, 1) := by decide +kernel
theorem dX5_mends_34 : decode cX5_mends 34 = .ok (.iastore, 1) := by decide +kernel
theorem dX5_mends_35 : decode cX5_mends 35 = .ok (.iload_n 3, 1) := by decide +kernel
theorem dX5_mends_36 : decode cX5_mends 36 = .ok (.ineg, 1) := by decide +kernel
theorem dX5_mends_37 : decode cX5_mends 37 = .ok (.ireturn, 1) := by decide +kernel
theorem dX5_mends_38 : decode cX5_mends 38 = .ok (.iload_n 2, 1) := by decide +kernel
theorem dX5_mends_39 : decode cX5_mends 39 = .ok (.ifCond .ne 7, 3) := by decide +kernel
theorem dX5_mends_42 : decode cX5_mends 42 = .ok (.iconst 0, 1) := by decide +kernel
theorem dX5_mends_43 : decode cX5_mends 43 = .ok (.goto 8, 3) := by decide +kernel
theorem dX5_mends_46 : decode cX5_mends 46 = .ok (.aload_n 0, 1) := by decide +kernel
theorem dX5_mends_47 : decode cX5_mends 47 = .ok (.iload_n 1, 1) := by decide +kernel
theorem dX5_mends_48 : decode cX5_mends 48 = .ok (.invokevirtual 73, 3) := by decide +kernel
theorem dX5_mends_51 : decode cX5_mends 51 = .ok (.istore 4, 2) := by decide +kernel
theorem dX5_mends_53 : decode cX5_mends 53 = .ok (.iload_n 2, 1) := by decide +kernel
theorem dX5_mends_54 : decode cX5_mends 54 = .ok (.ireturn, 1) := by decide +kernel
theorem dX5_tie_0 : decode cX5_tie 0 = .ok (.aload_n 0, 1) := by decide +kernel
theorem dX5_tie_1 : decode cX5_tie 1 = .ok (.iload_n 1, 1) := by decide +kernel
theorem dX5_tie_2 : decode cX5_tie 2 = .ok (.invokestatic 82, 3) := by decide +kernel
theorem dX5_tie_5 : decode cX5_tie 5 = .ok (.ifCond .ne 7, 3) := by decide +kernel
theorem dX5_tie_8 : decode cX5_tie 8 = .ok (.iconst 1, 1) := by decide +kernel
theorem dX5_tie_9 : decode cX5_tie 9 = .ok (.goto 18, 3) := by decide +kernel
theorem dX5_tie_12 : decode cX5_tie 12 = .ok (.iload_n 2, 1) := by decide +kernel
theorem dX5_tie_13 : decode cX5_tie 13 = .ok (.iconst 1, 1) := by decide +kernel
theorem dX5_tie_14 : decode cX5_tie 14 = .ok (.ldc 66, 2) := by decide +kernel
theorem dX5_tie_16 : decode cX5_tie 16 = .ok (.invokestatic 39, 3) := by decide +kernel
theorem dX5_tie_19 : decode cX5_tie 19 = .ok (.ifCond .ne 7, 3) := by decide +kernel
theorem dX5_tie_22 : decode cX5_tie 22 = .ok (.iconst 2, 1) := by decide +kernel
theorem dX5_tie_23 : decode cX5_tie 23 = .ok (.goto 4, 3) := by decide +kernel
theorem dX5_tie_26 : decode cX5_tie 26 = .ok (.iconst 0, 1) := by decide +kernel
theorem dX5_tie_27 : decode cX5_tie 27 = .ok (.invokevirtual 86, 3) := by decide +kernel
theorem dX5_tie_30 : decode cX5_tie 30 = .ok (.ifCond .ne 5, 3) := by decide +kernel
theorem dX5_tie_33 : decode cX5_tie 33 = .ok (.iconst 0, 1) := by decide +kernel
theorem dX5_tie_34 : decode cX5_tie 34 = .ok (.ireturn, 1) := by decide +kernel
theorem dX5_tie_35 : decode cX5_tie 35 = .ok (.aload_n 0, 1) := by decide +kernel
theorem dX5_tie_36 : decode cX5_tie 36 = .ok (.invokevirtual 89, 3) := by decide +kernel
theorem dX5_tie_39 : decode cX5_tie 39 = .ok (.aload_n 0, 1) := by decide +kernel
theorem dX5_tie_40 : decode cX5_tie 40 = .ok (.iload_n 1, 1) := by decide +kernel
theorem dX5_tie_41 : decode cX5_tie 41 = .ok (.iload_n 2, 1) := by decide +kernel
theorem dX5_tie_42 : decode cX5_tie 42 = .ok (.invokevirtual 76, 3) := by decide +kernel
theorem dX5_tie_45 : decode cX5_tie 45 = .ok (.ireturn, 1) := by decide +kernel
theorem dX5_add_0 : decode cX5_add 0 = .ok (.aload_n 0, 1) := by decide +kernel
theorem dX5_add_1 : decode cX5_add 1 = .ok (.iload_n 1, 1) := by decide +kernel
theorem dX5_add_2 : decode cX5_add 2 = .ok (.invokestatic 82, 3) := by decide +kernel
theorem dX5_add_5 : decode cX5_add 5 = .ok (.ifCond .eq 10, 3) := by decide +kernel
theorem dX5_add_8 : decode cX5_add 8 = .ok (.iload_n 2, 1) := by decide +kernel
theorem dX5_add_9 : decode cX5_add 9 = .ok (.invokestatic 82, 3) := by decide +kernel
theorem dX5_add_12 : decode cX5_add 12 = .ok (.ifCond .ne 7, 3) := by decide +kernel
theorem dX5_add_15 : decode cX5_add 15 = .ok (.iconst 1, 1) := by decide +kernel
theorem dX5_add_16 : decode cX5_add 16 = .ok (.goto 13, 3) := by decide +kernel
theorem dX5_add_19 : decode cX5_add 19 = .ok (.iload_n 1, 1) := by decide +kernel
theorem dX5_add_20 : decode cX5_add 20 = .ok (.iload_n 2, 1) := by decide +kernel
theorem dX5_add_21 : decode cX5_add 21 = .ok (.if_icmp .ne 7, 3) := by decide +kernel
theorem dX5_add_24 : decode cX5_add 24 = .ok (.iconst 2, 1) := by decide +kernel
theorem dX5_add_25 : decode cX5_add 25 = .ok (.goto 4, 3) := by decide +kernel
theorem dX5_add_28 : decode cX5_add 28 = .ok (.iconst 0, 1) := by decide +kernel
theorem dX5_add_29 : decode cX5_add 29 = .ok (.invokevirtual 86, 3) := by decide +kernel
theorem dX5_add_32 : decode cX5_add 32 = .ok (.ifCond .ne 5, 3) := by decide +kernel
theorem dX5_add_35 : decode cX5_add 35 = .ok (.iconst 0, 1) := by decide +kernel
theorem dX5_add_36 : decode cX5_add 36 = .ok (.ireturn, 1) := by decide +kernel
theorem dX5_add_37 : decode cX5_add 37 = .ok (.aload_n 0, 1) := by decide +kernel
theorem dX5_add_38 : decode cX5_add 38 = .ok (.invokevirtual 89, 3) := by decide +kernel
theorem dX5_add_41 : decode cX5_add 41 = .ok (.aload_n 0, 1) := by decide +kernel
theorem dX5_add_42 : decode cX5_add 42 = .ok (.iload_n 1, 1) := by decide +kernel
theorem dX5_add_43 : decode cX5_add 43 = .ok (.iload_n 2, 1) := by decide +kernel
theorem dX5_add_44 : decode cX5_add 44 = .ok (.invokevirtual 92, 3) := by decide +kernel
theorem dX5_add_47 : decode cX5_add 47 = .ok (.ireturn, 1) := by decide +kernel
theorem dX5_slip_0 : decode cX5_slip 0 = .ok (.aload_n 0, 1) := by decide +kernel
theorem dX5_slip_1 : decode cX5_slip 1 = .ok (.iload_n 1, 1) := by decide +kernel
theorem dX5_slip_2 : decode cX5_slip 2 = .ok (.invokestatic 82, 3) := by decide +kernel
theorem dX5_slip_5 : decode cX5_slip 5 = .ok (.ifCond .eq 16, 3) := by decide +kernel
theorem dX5_slip_8 : decode cX5_slip 8 = .ok (.iload_n 2, 1) := by decide +kernel
theorem dX5_slip_9 : decode cX5_slip 9 = .ok (.iconst 0, 1) := by decide +kernel
theorem dX5_slip_10 : decode cX5_slip 10 = .ok (.iconst 5, 1) := by decide +kernel
theorem dX5_slip_11 : decode cX5_slip 11 = .ok (.invokestatic 39, 3) := by decide +kernel
theorem dX5_slip_14 : decode cX5_slip 14 = .ok (.ifCond .eq 7, 3) := by decide +kernel
theorem dX5_slip_17 : decode cX5_slip 17 = .ok (.iconst 0, 1) := by decide +kernel
theorem dX5_slip_18 : decode cX5_slip 18 = .ok (.goto 4, 3) := by decide +kernel
theorem dX5_slip_21 : decode cX5_slip 21 = .ok (.iconst 1, 1) := by decide +kernel
theorem dX5_slip_22 : decode cX5_slip 22 = .ok (.invokevirtual 86, 3) := by decide +kernel
theorem dX5_slip_25 : decode cX5_slip 25 = .ok (.ifCond .ne 5, 3) := by decide +kernel
theorem dX5_slip_28 : decode cX5_slip 28 = .ok (.iconst 0, 1) := by decide +kernel
theorem dX5_slip_29 : decode cX5_slip 29 = .ok (.ireturn, 1) := by decide +kernel
theorem dX5_slip_30 : decode cX5_slip 30 = .ok (.aload_n 0, 1) := by decide +kernel
theorem dX5_slip_31 : decode cX5_slip 31 = .ok (.invokevirtual 89, 3) := by decide +kernel
theorem dX5_slip_34 : decode cX5_slip 34 = .ok (.aload_n 0, 1) := by decide +kernel
theorem dX5_slip_35 : decode cX5_slip 35 = .ok (.iload_n 1, 1) := by decide +kernel
theorem dX5_slip_36 : decode cX5_slip 36 = .ok (.iload_n 2, 1) := by decide +kernel
theorem dX5_slip_37 : decode cX5_slip 37 = .ok (.invokevirtual 95, 3) := by decide +kernel
theorem dX5_slip_40 : decode cX5_slip 40 = .ok (.ireturn, 1) := by decide +kernel
theorem dX5_mend_0 : decode cX5_mend 0 = .ok (.aload_n 0, 1) := by decide +kernel
theorem dX5_mend_1 : decode cX5_mend 1 = .ok (.iload_n 1, 1) := by decide +kernel
theorem dX5_mend_2 : decode cX5_mend 2 = .ok (.invokestatic 82, 3) := by decide +kernel
theorem dX5_mend_5 : decode cX5_mend 5 = .ok (.ifCond .eq 7, 3) := by decide +kernel
theorem dX5_mend_8 : decode cX5_mend 8 = .ok (.iconst 0, 1) := by decide +kernel
theorem dX5_mend_9 : decode cX5_mend 9 = .ok (.goto 4, 3) := by decide +kernel
theorem dX5_mend_12 : decode cX5_mend 12 = .ok (.iconst 1, 1) := by decide +kernel
theorem dX5_mend_13 : decode cX5_mend 13 = .ok (.invokevirtual 86, 3) := by decide +kernel
theorem dX5_mend_16 : decode cX5_mend 16 = .ok (.ifCond .ne 5, 3) := by decide +kernel
theorem dX5_mend_19 : decode cX5_mend 19 = .ok (.iconst 0, 1) := by decide +kernel
theorem dX5_mend_20 : decode cX5_mend 20 = .ok (.ireturn, 1) := by decide +kernel
theorem dX5_mend_21 : decode cX5_mend 21 = .ok (.aload_n 0, 1) := by decide +kernel
theorem dX5_mend_22 : decode cX5_mend 22 = .ok (.invokevirtual 89, 3) := by decide +kernel
theorem dX5_mend_25 : decode cX5_mend 25 = .ok (.aload_n 0, 1) := by decide +kernel
theorem dX5_mend_26 : decode cX5_mend 26 = .ok (.iload_n 1, 1) := by decide +kernel
theorem dX5_mend_27 : decode cX5_mend 27 = .ok (.invokevirtual 98, 3) := by decide +kernel
theorem dX5_mend_30 : decode cX5_mend 30 = .ok (.ireturn, 1) := by decide +kernel
theorem dX5_renew_0 : decode cX5_renew 0 = .ok (.aload_n 0, 1) := by decide +kernel
theorem dX5_renew_1 : decode cX5_renew 1 = .ok (.iload_n 1, 1) := by decide +kernel
theorem dX5_renew_2 : decode cX5_renew 2 = .ok (.invokestatic 82, 3) := by decide +kernel
theorem dX5_renew_5 : decode cX5_renew 5 = .ok (.ifCond .eq 7, 3) := by decide +kernel
theorem dX5_renew_8 : decode cX5_renew 8 = .ok (.iconst 0, 1) := by decide +kernel
theorem dX5_renew_9 : decode cX5_renew 9 = .ok (.goto 4, 3) := by decide +kernel
theorem dX5_renew_12 : decode cX5_renew 12 = .ok (.iconst 1, 1) := by decide +kernel
theorem dX5_renew_13 : decode cX5_renew 13 = .ok (.invokevirtual 86, 3) := by decide +kernel
theorem dX5_renew_16 : decode cX5_renew 16 = .ok (.ifCond .ne 5, 3) := by decide +kernel
theorem dX5_renew_19 : decode cX5_renew 19 = .ok (.iconst 0, 1) := by decide +kernel
theorem dX5_renew_20 : decode cX5_renew 20 = .ok (.ireturn, 1) := by decide +kernel
theorem dX5_renew_21 : decode cX5_renew 21 = .ok (.aload_n 0, 1) := by decide +kernel
theorem dX5_renew_22 : decode cX5_renew 22 = .ok (.invokevirtual 89, 3) := by decide +kernel
theorem dX5_renew_25 : decode cX5_renew 25 = .ok (.aload_n 0, 1) := by decide +kernel
theorem dX5_renew_26 : decode cX5_renew 26 = .ok (.iload_n 1, 1) := by decide +kernel
theorem dX5_renew_27 : decode cX5_renew 27 = .ok (.invokevirtual 60, 3) := by decide +kernel
theorem dX5_renew_30 : decode cX5_renew 30 = .ok (.istore_n 2, 1) := by decide +kernel
theorem dX5_renew_31 : decode cX5_renew 31 = .ok (.aload_n 0, 1) := by decide +kernel
theorem dX5_renew_32 : decode cX5_renew 32 = .ok (.getfield 7, 3) := by decide +kernel
theorem dX5_renew_35 : decode cX5_renew 35 = .ok (.iconst 3, 1) := by decide +kernel
theorem dX5_renew_36 : decode cX5_renew 36 = .ok (.dup2, 1) := by decide +kernel
theorem dX5_renew_37 : decode cX5_renew 37 = .ok (.iaload, 1) := by decide +kernel
theorem dX5_renew_38 : decode cX5_renew 38 = .ok (.aload_n 0, 1) := by decide +kernel
theorem dX5_renew_39 : decode cX5_renew 39 = .ok (.iload_n 1, 1) := by decide +kernel
theorem dX5_renew_40 : decode cX5_renew 40 = .ok (.invokevirtual 63, 3) := by decide +kernel
theorem dX5_renew_43 : decode cX5_renew 43 = .ok (.iadd, 1) := by decide +kernel
theorem dX5_renew_44 : decode cX5_renew 44 = .ok (.iastore, 1) := by decide +kernel
theorem dX5_renew_45 : decode cX5_renew 45 = .ok (.iconst 1, 1) := by decide +kernel
theorem dX5_renew_46 : decode cX5_renew 46 = .ok (.istore_n 3, 1) := by decide +kernel
theorem dX5_renew_47 : decode cX5_renew 47 = .ok (.iload_n 3, 1) := by decide +kernel
theorem dX5_renew_48 : decode cX5_renew 48 = .ok (.bipush 31, 2) := by decide +kernel
theorem dX5_renew_50 : decode cX5_renew 50 = .ok (.if_icmp .ge 20, 3) := by decide +kernel
theorem dX5_renew_53 : decode cX5_renew 53 = .ok (.aload_n 0, 1) := by decide +kernel
theorem dX5_renew_54 : decode cX5_renew 54 = .ok (.getfield 7, 3) := by decide +kernel
theorem dX5_renew_57 : decode cX5_renew 57 = .ok (.iload_n 1, 1) := by decide +kernel
theorem dX5_renew_58 : decode cX5_renew 58 = .ok (.iload_n 3, 1) := by decide +kernel
theorem dX5_renew_59 : decode cX5_renew 59 = .ok (.invokestatic 43, 3) := by decide +kernel
theorem dX5_renew_62 : decode cX5_renew 62 = .ok (.iconst 0, 1) := by decide +kernel
theorem dX5_renew_63 : decode cX5_renew 63 = .ok (.iastore, 1) := by decide +kernel
theorem dX5_renew_64 : decode cX5_renew 64 = .ok (.iinc 3 1, 3) := by decide +kernel
theorem dX5_renew_67 : decode cX5_renew 67 = .ok (.goto (-20), 3) := by decide +kernel
theorem dX5_renew_70 : decode cX5_renew 70 = .ok (.iload_n 2, 1) := by decide +kernel
theorem dX5_renew_71 : decode cX5_renew 71 = .ok (.ireturn, 1) := by decide +kernel
theorem dX5_puts_0 : decode cX5_puts 0 = .ok (.aload_n 0, 1) := by decide +kernel
theorem dX5_puts_1 : decode cX5_puts 1 = .ok (.invokevirtual 89, 3) := by decide +kernel
theorem dX5_puts_4 : decode cX5_puts 4 = .ok (.aload_n 0, 1) := by decide +kernel
theorem dX5_puts_5 : decode cX5_puts 5 = .ok (.getfield 7, 3) := by decide +kernel
theorem dX5_puts_8 : decode cX5_puts 8 = .ok (.iload_n 1, 1) := by decide +kernel
theorem dX5_puts_9 : decode cX5_puts 9 = .ok (.iaload, 1) := by decide +kernel
theorem dX5_puts_10 : decode cX5_puts 10 = .ok (.istore_n 3, 1) := by decide +kernel
theorem dX5_puts_11 : decode cX5_puts 11 = .ok (.aload_n 0, 1) := by decide +kernel
theorem dX5_puts_12 : decode cX5_puts 12 = .ok (.getfield 7, 3) := by decide +kernel
theorem dX5_puts_15 : decode cX5_puts 15 = .ok (.iload_n 1, 1) := by decide +kernel
theorem dX5_puts_16 : decode cX5_puts 16 = .ok (.iload_n 2, 1) := by decide +kernel
theorem dX5_puts_17 : decode cX5_puts 17 = .ok (.iastore, 1) := by decide +kernel
theorem dX5_puts_18 : decode cX5_puts 18 = .ok (.iload_n 3, 1) := by decide +kernel
theorem dX5_puts_19 : decode cX5_puts 19 = .ok (.ireturn, 1) := by decide +kernel
theorem dX5_dye_0 : decode cX5_dye 0 = .ok (.aload_n 0, 1) := by decide +kernel
theorem dX5_dye_1 : decode cX5_dye 1 = .ok (.iload_n 1, 1) := by decide +kernel
theorem dX5_dye_2 : decode cX5_dye 2 = .ok (.invokestatic 82, 3) := by decide +kernel
theorem dX5_dye_5 : decode cX5_dye 5 = .ok (.ifCond .ne 7, 3) := by decide +kernel
theorem dX5_dye_8 : decode cX5_dye 8 = .ok (.iconst 1, 1) := by decide +kernel
theorem dX5_dye_9 : decode cX5_dye 9 = .ok (.goto 17, 3) := by decide +kernel
theorem dX5_dye_12 : decode cX5_dye 12 = .ok (.iload_n 2, 1) := by decide +kernel
theorem dX5_dye_13 : decode cX5_dye 13 = .ok (.iconst 0, 1) := by decide +kernel
theorem dX5_dye_14 : decode cX5_dye 14 = .ok (.iconst 5, 1) := by decide +kernel
theorem dX5_dye_15 : decode cX5_dye 15 = .ok (.invokestatic 39, 3) := by decide +kernel
theorem dX5_dye_18 : decode cX5_dye 18 = .ok (.ifCond .ne 7, 3) := by decide +kernel
theorem dX5_dye_21 : decode cX5_dye 21 = .ok (.iconst 2, 1) := by decide +kernel
theorem dX5_dye_22 : decode cX5_dye 22 = .ok (.goto 4, 3) := by decide +kernel
theorem dX5_dye_25 : decode cX5_dye 25 = .ok (.iconst 0, 1) := by decide +kernel
theorem dX5_dye_26 : decode cX5_dye 26 = .ok (.invokevirtual 86, 3) := by decide +kernel
theorem dX5_dye_29 : decode cX5_dye 29 = .ok (.ifCond .eq 16, 3) := by decide +kernel
theorem dX5_dye_32 : decode cX5_dye 32 = .ok (.aload_n 0, 1) := by decide +kernel
theorem dX5_dye_33 : decode cX5_dye 33 = .ok (.iload_n 1, 1) := by decide +kernel
theorem dX5_dye_34 : decode cX5_dye 34 = .ok (.iconst 0, 1) := by decide +kernel
theorem dX5_dye_35 : decode cX5_dye 35 = .ok (.invokestatic 43, 3) := by decide +kernel
theorem dX5_dye_38 : decode cX5_dye 38 = .ok (.iload_n 2, 1) := by decide +kernel
theorem dX5_dye_39 : decode cX5_dye 39 = .ok (.invokevirtual 101, 3) := by decide +kernel
theorem dX5_dye_42 : decode cX5_dye 42 = .ok (.goto 4, 3) := by decide +kernel
theorem dX5_dye_45 : decode cX5_dye 45 = .ok (.iconst 0, 1) := by decide +kernel
theorem dX5_dye_46 : decode cX5_dye 46 = .ok (.ireturn, 1) := by decide +kernel
theorem dX5_set_0 : decode cX5_set 0 = .ok (.aload_n 0, 1) := by decide +kernel
theorem dX5_set_1 : decode cX5_set 1 = .ok (.iload_n 1, 1) := by decide +kernel
theorem dX5_set_2 : decode cX5_set 2 = .ok (.bipush 20, 2) := by decide +kernel
theorem dX5_set_4 : decode cX5_set 4 = .ok (.bipush 99, 2) := by decide +kernel
theorem dX5_set_6 : decode cX5_set 6 = .ok (.invokestatic 39, 3) := by decide +kernel
theorem dX5_set_9 : decode cX5_set 9 = .ok (.ifCond .eq 7, 3) := by decide +kernel
theorem dX5_set_12 : decode cX5_set 12 = .ok (.iconst 0, 1) := by decide +kernel
theorem dX5_set_13 : decode cX5_set 13 = .ok (.goto 4, 3) := by decide +kernel
theorem dX5_set_16 : decode cX5_set 16 = .ok (.iconst 1, 1) := by decide +kernel
theorem dX5_set_17 : decode cX5_set 17 = .ok (.invokevirtual 86, 3) := by decide +kernel
theorem dX5_set_20 : decode cX5_set 20 = .ok (.ifCond .eq 12, 3) := by decide +kernel
theorem dX5_set_23 : decode cX5_set 23 = .ok (.aload_n 0, 1) := by decide +kernel
theorem dX5_set_24 : decode cX5_set 24 = .ok (.iconst 5, 1) := by decide +kernel
theorem dX5_set_25 : decode cX5_set 25 = .ok (.iload_n 1, 1) := by decide +kernel
theorem dX5_set_26 : decode cX5_set 26 = .ok (.invokevirtual 101, 3) := by decide +kernel
theorem dX5_set_29 : decode cX5_set 29 = .ok (.goto 4, 3) := by decide +kernel
theorem dX5_set_32 : decode cX5_set 32 = .ok (.iconst 0, 1) := by decide +kernel
theorem dX5_set_33 : decode cX5_set 33 = .ok (.ireturn, 1) := by decide +kernel
theorem dX5_append_0 : decode cX5_append 0 = .ok (.aload_n 0, 1) := by decide +kernel
theorem dX5_append_1 : decode cX5_append 1 = .ok (.iload_n 1, 1) := by decide +kernel
theorem dX5_append_2 : decode cX5_append 2 = .ok (.bipush 33, 2) := by decide +kernel
theorem dX5_append_4 : decode cX5_append 4 = .ok (.bipush 126, 2) := by decide +kernel
theorem dX5_append_6 : decode cX5_append 6 = .ok (.invokestatic 39, 3) := by decide +kernel
theorem dX5_append_9 : decode cX5_append 9 = .ok (.ifCond .ne 7, 3) := by decide +kernel
theorem dX5_append_12 : decode cX5_append 12 = .ok (.iconst 1, 1) := by decide +kernel
theorem dX5_append_13 : decode cX5_append 13 = .ok (.goto 17, 3) := by decide +kernel
theorem dX5_append_16 : decode cX5_append 16 = .ok (.aload_n 0, 1) := by decide +kernel
theorem dX5_append_17 : decode cX5_append 17 = .ok (.getfield 104, 3) := by decide +kernel
theorem dX5_append_20 : decode cX5_append 20 = .ok (.bipush 60, 2) := by decide +kernel
theorem dX5_append_22 : decode cX5_append 22 = .ok (.if_icmp .ne 7, 3) := by decide +kernel
theorem dX5_append_25 : decode cX5_append 25 = .ok (.iconst 2, 1) := by decide +kernel
theorem dX5_append_26 : decode cX5_append 26 = .ok (.goto 4, 3) := by decide +kernel
theorem dX5_append_29 : decode cX5_append 29 = .ok (.iconst 0, 1) := by decide +kernel
theorem dX5_append_30 : decode cX5_append 30 = .ok (.invokevirtual 86, 3) := by decide +kernel
theorem dX5_append_33 : decode cX5_append 33 = .ok (.ifCond .ne 5, 3) := by decide +kernel
theorem dX5_append_36 : decode cX5_append 36 = .ok (.iconst 0, 1) := by decide +kernel
theorem dX5_append_37 : decode cX5_append 37 = .ok (.ireturn, 1) := by decide +kernel
theorem dX5_append_38 : decode cX5_append 38 = .ok (.aload_n 0, 1) := by decide +kernel
theorem dX5_append_39 : decode cX5_append 39 = .ok (.getfield 26, 3) := by decide +kernel
theorem dX5_append_42 : decode cX5_append 42 = .ok (.aload_n 0, 1) := by decide +kernel
theorem dX5_append_43 : decode cX5_append 43 = .ok (.getfield 104, 3) := by decide +kernel
theorem dX5_append_46 : decode cX5_append 46 = .ok (.iload_n 1, 1) := by decide +kernel
theorem dX5_append_47 : decode cX5_append 47 = .ok (.iastore, 1) := by decide +kernel
theorem dX5_append_48 : decode cX5_append 48 = .ok (.aload_n 0, 1) := by decide +kernel
theorem dX5_append_49 : decode cX5_append 49 = .ok (.dup, 1) := by decide +kernel
theorem dX5_append_50 : decode cX5_append 50 = .ok (.getfield 104, 3) := by decide +kernel
theorem dX5_append_53 : decode cX5_append 53 = .ok (.iconst 1, 1) := by decide +kernel
theorem dX5_append_54 : decode cX5_append 54 = .ok (.iadd, 1) := by decide +kernel
theorem dX5_append_55 : decode cX5_append 55 = .ok (.putfield 104, 3) := by decide +kernel
theorem dX5_append_58 : decode cX5_append 58 = .ok (.aload_n 0, 1) := by decide +kernel
theorem dX5_append_59 : decode cX5_append 59 = .ok (.getfield 104, 3) := by decide +kernel
theorem dX5_append_62 : decode cX5_append 62 = .ok (.ireturn, 1) := by decide +kernel
theorem dX5_clearBuffer_0 : decode cX5_clearBuffer 0 = .ok (.aload_n 0, 1) := by decide +kernel
theorem dX5_clearBuffer_1 : decode cX5_clearBuffer 1 = .ok (.iconst 0, 1) := by decide +kernel
theorem dX5_clearBuffer_2 : decode cX5_clearBuffer 2 = .ok (.putfield 35, 3) := by decide +kernel
theorem dX5_clearBuffer_5 : decode cX5_clearBuffer 5 = .ok (.aload_n 0, 1) := by decide +kernel
theorem dX5_clearBuffer_6 : decode cX5_clearBuffer 6 = .ok (.getfield 104, 3) := by decide +kernel
theorem dX5_clearBuffer_9 : decode cX5_clearBuffer 9 = .ok (.istore_n 1, 1) := by decide +kernel
theorem dX5_clearBuffer_10 : decode cX5_clearBuffer 10 = .ok (.aload_n 0, 1) := by decide +kernel
theorem dX5_clearBuffer_11 : decode cX5_clearBuffer 11 = .ok (.iconst 0, 1) := by decide +kernel
theorem dX5_clearBuffer_12 : decode cX5_clearBuffer 12 = .ok (.putfield 104, 3) := by decide +kernel
theorem dX5_clearBuffer_15 : decode cX5_clearBuffer 15 = .ok (.iload_n 1, 1) := by decide +kernel
theorem dX5_clearBuffer_16 : decode cX5_clearBuffer 16 = .ok (.ireturn, 1) := by decide +kernel
theorem dX5_charAt_0 : decode cX5_charAt 0 = .ok (.iload_n 1, 1) := by decide +kernel
theorem dX5_charAt_1 : decode cX5_charAt 1 = .ok (.aload_n 0, 1) := by decide +kernel
theorem dX5_charAt_2 : decode cX5_charAt 2 = .ok (.getfield 104, 3) := by decide +kernel
theorem dX5_charAt_5 : decode cX5_charAt 5 = .ok (.if_icmp .ge 12, 3) := by decide +kernel
theorem dX5_charAt_8 : decode cX5_charAt 8 = .ok (.aload_n 0, 1) := by decide +kernel
theorem dX5_charAt_9 : decode cX5_charAt 9 = .ok (.getfield 26, 3) := by decide +kernel
theorem dX5_charAt_12 : decode cX5_charAt 12 = .ok (.iload_n 1, 1) := by decide +kernel
theorem dX5_charAt_13 : decode cX5_charAt 13 = .ok (.iaload, 1) := by decide +kernel
theorem dX5_charAt_14 : decode cX5_charAt 14 = .ok (.goto 4, 3) := by decide +kernel
theorem dX5_charAt_17 : decode cX5_charAt 17 = .ok (.iconst 0, 1) := by decide +kernel
theorem dX5_charAt_18 : decode cX5_charAt 18 = .ok (.ireturn, 1) := by decide +kernel
theorem dX5_digitAt_0 : decode cX5_digitAt 0 = .ok (.aload_n 0, 1) := by decide +kernel
theorem dX5_digitAt_1 : decode cX5_digitAt 1 = .ok (.iload_n 1, 1) := by decide +kernel
theorem dX5_digitAt_2 : decode cX5_digitAt 2 = .ok (.invokevirtual 107, 3) := by decide +kernel
theorem dX5_digitAt_5 : decode cX5_digitAt 5 = .ok (.bipush 48, 2) := by decide +kernel
theorem dX5_digitAt_7 : decode cX5_digitAt 7 = .ok (.isub, 1) := by decide +kernel
theorem dX5_digitAt_8 : decode cX5_digitAt 8 = .ok (.ireturn, 1) := by decide +kernel
theorem dX5_behindNumber_0 : decode cX5_behindNumber 0 = .ok (.iload_n 1, 1) := by decide +kernel
theorem dX5_behindNumber_1 : decode cX5_behindNumber 1 = .ok (.istore_n 2, 1) := by decide +kernel
theorem dX5_behindNumber_2 : decode cX5_behindNumber 2 = .ok (.iload_n 2, 1) := by decide +kernel
theorem dX5_behindNumber_3 : decode cX5_behindNumber 3 = .ok (.iload_n 1, 1) := by decide +kernel
theorem dX5_behindNumber_4 : decode cX5_behindNumber 4 = .ok (.bipush 6, 2) := by decide +kernel
theorem dX5_behindNumber_6 : decode cX5_behindNumber 6 = .ok (.iadd, 1) := by decide +kernel
theorem dX5_behindNumber_7 : decode cX5_behindNumber 7 = .ok (.if_icmp .ge 32, 3) := by decide +kernel
theorem dX5_behindNumber_10 : decode cX5_behindNumber 10 = .ok (.aload_n 0, 1) := by decide +kernel
theorem dX5_behindNumber_11 : decode cX5_behindNumber 11 = .ok (.iload_n 2, 1) := by decide +kernel
theorem dX5_behindNumber_12 : decode cX5_behindNumber 12 = .ok (.invokevirtual 110, 3) := by decide +kernel
theorem dX5_behindNumber_15 : decode cX5_behindNumber 15 = .ok (.iload_n 2, 1) := by decide +kernel
theorem dX5_behindNumber_16 : decode cX5_behindNumber 16 = .ok (.iload_n 1, 1) := by decide +kernel
theorem dX5_behindNumber_17 : decode cX5_behindNumber 17 = .ok (.if_icmp .ne 7, 3) := by decide +kernel
theorem dX5_behindNumber_20 : decode cX5_behindNumber 20 = .ok (.iconst 1, 1) := by decide +kernel
theorem dX5_behindNumber_21 : decode cX5_behindNumber 21 = .ok (.goto 4, 3) := by decide +kernel
theorem dX5_behindNumber_24 : decode cX5_behindNumber 24 = .ok (.iconst 0, 1) := by decide +kernel
theorem dX5_behindNumber_25 : decode cX5_behindNumber 25 = .ok (.bipush 9, 2) := by decide +kernel
theorem dX5_behindNumber_27 : decode cX5_behindNumber 27 = .ok (.invokestatic 39, 3) := by decide +kernel
theorem dX5_behindNumber_30 : decode cX5_behindNumber 30 = .ok (.ifCond .eq 9, 3) := by decide +kernel
theorem dX5_behindNumber_33 : decode cX5_behindNumber 33 = .ok (.iinc 2 1, 3) := by decide +kernel
theorem dX5_behindNumber_36 : decode cX5_behindNumber 36 = .ok (.goto (-34), 3) := by decide +kernel
theorem dX5_behindNumber_39 : decode cX5_behindNumber 39 = .ok (.iload_n 2, 1) := by decide +kernel
theorem dX5_behindNumber_40 : decode cX5_behindNumber 40 = .ok (.ireturn, 1) := by decide +kernel
theorem dX5_behindOrder_0 : decode cX5_behindOrder 0 = .ok (.aload_n 0, 1) := by decide +kernel
theorem dX5_behindOrder_1 : decode cX5_behindOrder 1 = .ok (.iload_n 1, 1) := by decide +kernel
theorem dX5_behindOrder_2 : decode cX5_behindOrder 2 = .ok (.invokevirtual 110, 3) := by decide +kernel
theorem dX5_behindOrder_5 : decode cX5_behindOrder 5 = .ok (.istore_n 2, 1) := by decide +kernel
theorem dX5_behindOrder_6 : decode cX5_behindOrder 6 = .ok (.iload_n 2, 1) := by decide +kernel
theorem dX5_behindOrder_7 : decode cX5_behindOrder 7 = .ok (.invokestatic 82, 3) := by decide +kernel
theorem dX5_behindOrder_10 : decode cX5_behindOrder 10 = .ok (.ifCond .ne 7, 3) := by decide +kernel
theorem dX5_behindOrder_13 : decode cX5_behindOrder 13 = .ok (.iconst (-1), 1) := by decide +kernel
theorem dX5_behindOrder_14 : decode cX5_behindOrder 14 = .ok (.iload_n 1, 1) := by decide +kernel
theorem dX5_behindOrder_15 : decode cX5_behindOrder 15 = .ok (.isub, 1) := by decide +kernel
theorem dX5_behindOrder_16 : decode cX5_behindOrder 16 = .ok (.ireturn, 1) := by decide +kernel
theorem dX5_behindOrder_17 : decode cX5_behindOrder 17 = .ok (.aload_n 0, 1) := by decide +kernel
theorem dX5_behindOrder_18 : decode cX5_behindOrder 18 = .ok (.iload_n 1, 1) := by decide +kernel
theorem dX5_behindOrder_19 : decode cX5_behindOrder 19 = .ok (.iconst 1, 1) := by decide +kernel
theorem dX5_behindOrder_20 : decode cX5_behindOrder 20 = .ok (.iadd, 1) := by decide +kernel
theorem dX5_behindOrder_21 : decode cX5_behindOrder 21 = .ok (.invokevirtual 107, 3) := by decide +kernel
theorem dX5_behindOrder_24 : decode cX5_behindOrder 24 = .ok (.lookupswitch 121 #[(43, 36), (62, 60), (126, 95)], 36) := by decide +kernel
theorem dX5_behindOrder_60 : decode cX5_behindOrder 60 = .ok (.aload_n 0, 1) := by decide +kernel
theorem dX5_behindOrder_61 : decode cX5_behindOrder 61 = .ok (.iload_n 1, 1) := by decide +kernel
theorem dX5_behindOrder_62 : decode cX5_behindOrder 62 = .ok (.iconst 2, 1) := by decide +kernel
theorem dX5_behindOrder_63 : decode cX5_behindOrder 63 = .ok (.iadd, 1) := by decide +kernel
theorem dX5_behindOrder_64 : decode cX5_behindOrder 64 = .ok (.invokevirtual 113, 3) := by decide +kernel
theorem dX5_behindOrder_67 : decode cX5_behindOrder 67 = .ok (.istore_n 3, 1) := by decide +kernel
theorem dX5_behindOrder_68 : decode cX5_behindOrder 68 = .ok (.iload_n 3, 1) := by decide +kernel
theorem dX5_behindOrder_69 : decode cX5_behindOrder 69 = .ok (.iload_n 1, 1) := by decide +kernel
theorem dX5_behindOrder_70 : decode cX5_behindOrder 70 = .ok (.iconst 2, 1) := by decide +kernel
theorem dX5_behindOrder_71 : decode cX5_behindOrder 71 = .ok (.iadd, 1) := by decide +kernel
theorem dX5_behindOrder_72 : decode cX5_behindOrder 72 = .ok (.if_icmp .ne 10, 3) := by decide +kernel
theorem dX5_behindOrder_75 : decode cX5_behindOrder 75 = .ok (.bipush (-3), 2) := by decide +kernel
theorem dX5_behindOrder_77 : decode cX5_behindOrder 77 = .ok (.iload_n 1, 1) := by decide +kernel
theorem dX5_behindOrder_78 : decode cX5_behindOrder 78 = .ok (.isub, 1) := by decide +kernel
theorem dX5_behindOrder_79 : decode cX5_behindOrder 79 = .ok (.goto 4, 3) := by decide +kernel
theorem dX5_behindOrder_82 : decode cX5_behindOrder 82 = .ok (.iload_n 3, 1) := by decide +kernel
theorem dX5_behindOrder_83 : decode cX5_behindOrder 83 = .ok (.ireturn, 1) := by decide +kernel
theorem dX5_behindOrder_84 : decode cX5_behindOrder 84 = .ok (.aload_n 0, 1) := by decide +kernel
theorem dX5_behindOrder_85 : decode cX5_behindOrder 85 = .ok (.iload_n 1, 1) := by decide +kernel
theorem dX5_behindOrder_86 : decode cX5_behindOrder 86 = .ok (.iconst 2, 1) := by decide +kernel
theorem dX5_behindOrder_87 : decode cX5_behindOrder 87 = .ok (.iadd, 1) := by decide +kernel
theorem dX5_behindOrder_88 : decode cX5_behindOrder 88 = .ok (.invokevirtual 110, 3) := by decide +kernel
theorem dX5_behindOrder_91 : decode cX5_behindOrder 91 = .ok (.invokestatic 82, 3) := by decide +kernel
theorem dX5_behindOrder_94 : decode cX5_behindOrder 94 = .ok (.ifCond .eq 20, 3) := by decide +kernel
theorem dX5_behindOrder_97 : decode cX5_behindOrder 97 = .ok (.aload_n 0, 1) := by decide +kernel
theorem dX5_behindOrder_98 : decode cX5_behindOrder 98 = .ok (.iload_n 1, 1) := by decide +kernel
theorem dX5_behindOrder_99 : decode cX5_behindOrder 99 = .ok (.iconst 2, 1) := by decide +kernel
theorem dX5_behindOrder_100 : decode cX5_behindOrder 100 = .ok (.iadd, 1) := by decide +kernel
theorem dX5_behindOrder_101 : decode cX5_behindOrder 101 = .ok (.invokevirtual 110, 3) := by decide +kernel
theorem dX5_behindOrder_104 : decode cX5_behindOrder 104 = .ok (.iload_n 2, 1) := by decide +kernel
theorem dX5_behindOrder_105 : decode cX5_behindOrder 105 = .ok (.if_icmp .eq 9, 3) := by decide +kernel
theorem dX5_behindOrder_108 : decode cX5_behindOrder 108 = .ok (.iload_n 1, 1) := by decide +kernel
theorem dX5_behindOrder_109 : decode cX5_behindOrder 109 = .ok (.iconst 3, 1) := by decide +kernel
theorem dX5_behindOrder_110 : decode cX5_behindOrder 110 = .ok (.iadd, 1) := by decide +kernel
theorem dX5_behindOrder_111 : decode cX5_behindOrder 111 = .ok (.goto 7, 3) := by decide +kernel
theorem dX5_behindOrder_114 : decode cX5_behindOrder 114 = .ok (.bipush (-3), 2) := by decide +kernel
theorem dX5_behindOrder_116 : decode cX5_behindOrder 116 = .ok (.iload_n 1, 1) := by decide +kernel
theorem dX5_behindOrder_117 : decode cX5_behindOrder 117 = .ok (.isub, 1) := by decide +kernel
theorem dX5_behindOrder_118 : decode cX5_behindOrder 118 = .ok (.ireturn, 1) := by decide +kernel
theorem dX5_behindOrder_119 : decode cX5_behindOrder 119 = .ok (.aload_n 0, 1) := by decide +kernel
theorem dX5_behindOrder_120 : decode cX5_behindOrder 120 = .ok (.iload_n 1, 1) := by decide +kernel
theorem dX5_behindOrder_121 : decode cX5_behindOrder 121 = .ok (.iconst 2, 1) := by decide +kernel
theorem dX5_behindOrder_122 : decode cX5_behindOrder 122 = .ok (.iadd, 1) := by decide +kernel
theorem dX5_behindOrder_123 : decode cX5_behindOrder 123 = .ok (.invokevirtual 110, 3) := by decide +kernel
theorem dX5_behindOrder_126 : decode cX5_behindOrder 126 = .ok (.iconst 0, 1) := by decide +kernel
theorem dX5_behindOrder_127 : decode cX5_behindOrder 127 = .ok (.iconst 5, 1) := by decide +kernel
theorem dX5_behindOrder_128 : decode cX5_behindOrder 128 = .ok (.invokestatic 39, 3) := by decide +kernel
theorem dX5_behindOrder_131 : decode cX5_behindOrder 131 = .ok (.ifCond .eq 9, 3) := by decide +kernel
theorem dX5_behindOrder_134 : decode cX5_behindOrder 134 = .ok (.iload_n 1, 1) := by decide +kernel
theorem dX5_behindOrder_135 : decode cX5_behindOrder 135 = .ok (.iconst 3, 1) := by decide +kernel
theorem dX5_behindOrder_136 : decode cX5_behindOrder 136 = .ok (.iadd, 1) := by decide +kernel
theorem dX5_behindOrder_137 : decode cX5_behindOrder 137 = .ok (.goto 7, 3) := by decide +kernel
theorem dX5_behindOrder_140 : decode cX5_behindOrder 140 = .ok (.bipush (-3), 2) := by decide +kernel
theorem dX5_behindOrder_142 : decode cX5_behindOrder 142 = .ok (.iload_n 1, 1) := by decide +kernel
theorem dX5_behindOrder_143 : decode cX5_behindOrder 143 = .ok (.isub, 1) := by decide +kernel
theorem dX5_behindOrder_144 : decode cX5_behindOrder 144 = .ok (.ireturn, 1) := by decide +kernel
theorem dX5_behindOrder_145 : decode cX5_behindOrder 145 = .ok (.bipush (-2), 2) := by decide +kernel
theorem dX5_behindOrder_147 : decode cX5_behindOrder 147 = .ok (.iload_n 1, 1) := by decide +kernel
theorem dX5_behindOrder_148 : decode cX5_behindOrder 148 = .ok (.isub, 1) := by decide +kernel
theorem dX5_behindOrder_149 : decode cX5_behindOrder 149 = .ok (.ireturn, 1) := by decide +kernel
theorem dX5_wrong_0 : decode cX5_wrong 0 = .ok (.iconst 0, 1) := by decide +kernel
theorem dX5_wrong_1 : decode cX5_wrong 1 = .ok (.istore_n 1, 1) := by decide +kernel
theorem dX5_wrong_2 : decode cX5_wrong 2 = .ok (.iconst 1, 1) := by decide +kernel
theorem dX5_wrong_3 : decode cX5_wrong 3 = .ok (.istore_n 2, 1) := by decide +kernel
theorem dX5_wrong_4 : decode cX5_wrong 4 = .ok (.iload_n 2, 1) := by decide +kernel
theorem dX5_wrong_5 : decode cX5_wrong 5 = .ok (.ifCond .eq 63, 3) := by decide +kernel
theorem dX5_wrong_8 : decode cX5_wrong 8 = .ok (.aload_n 0, 1) := by decide +kernel
theorem dX5_wrong_9 : decode cX5_wrong 9 = .ok (.iload_n 1, 1) := by decide +kernel
theorem dX5_wrong_10 : decode cX5_wrong 10 = .ok (.invokevirtual 116, 3) := by decide +kernel
theorem dX5_wrong_13 : decode cX5_wrong 13 = .ok (.istore_n 1, 1) := by decide +kernel
theorem dX5_wrong_14 : decode cX5_wrong 14 = .ok (.iload_n 1, 1) := by decide +kernel
theorem dX5_wrong_15 : decode cX5_wrong 15 = .ok (.ifCond .ge 7, 3) := by decide +kernel
theorem dX5_wrong_18 : decode cX5_wrong 18 = .ok (.iconst (-1), 1) := by decide +kernel
theorem dX5_wrong_19 : decode cX5_wrong 19 = .ok (.iload_n 1, 1) := by decide +kernel
theorem dX5_wrong_20 : decode cX5_wrong 20 = .ok (.isub, 1) := by decide +kernel
theorem dX5_wrong_21 : decode cX5_wrong 21 = .ok (.ireturn, 1) := by decide +kernel
theorem dX5_wrong_22 : decode cX5_wrong 22 = .ok (.iload_n 1, 1) := by decide +kernel
theorem dX5_wrong_23 : decode cX5_wrong 23 = .ok (.aload_n 0, 1) := by decide +kernel
theorem dX5_wrong_24 : decode cX5_wrong 24 = .ok (.getfield 104, 3) := by decide +kernel
theorem dX5_wrong_27 : decode cX5_wrong 27 = .ok (.if_icmp .ge 7, 3) := by decide +kernel
theorem dX5_wrong_30 : decode cX5_wrong 30 = .ok (.iconst 1, 1) := by decide +kernel
theorem dX5_wrong_31 : decode cX5_wrong 31 = .ok (.goto 4, 3) := by decide +kernel
theorem dX5_wrong_34 : decode cX5_wrong 34 = .ok (.iconst 0, 1) := by decide +kernel
theorem dX5_wrong_35 : decode cX5_wrong 35 = .ok (.istore_n 2, 1) := by decide +kernel
theorem dX5_wrong_36 : decode cX5_wrong 36 = .ok (.iload_n 2, 1) := by decide +kernel
theorem dX5_wrong_37 : decode cX5_wrong 37 = .ok (.ifCond .eq 16, 3) := by decide +kernel
theorem dX5_wrong_40 : decode cX5_wrong 40 = .ok (.aload_n 0, 1) := by decide +kernel
theorem dX5_wrong_41 : decode cX5_wrong 41 = .ok (.getfield 26, 3) := by decide +kernel
theorem dX5_wrong_44 : decode cX5_wrong 44 = .ok (.iload_n 1, 1) := by decide +kernel
theorem dX5_wrong_45 : decode cX5_wrong 45 = .ok (.iaload, 1) := by decide +kernel
theorem dX5_wrong_46 : decode cX5_wrong 46 = .ok (.bipush 59, 2) := by decide +kernel
theorem dX5_wrong_48 : decode cX5_wrong 48 = .ok (.if_icmp .eq 5, 3) := by decide +kernel
theorem dX5_wrong_51 : decode cX5_wrong 51 = .ok (.iload_n 1, 1) := by decide +kernel
theorem dX5_wrong_52 : decode cX5_wrong 52 = .ok (.ireturn, 1) := by decide +kernel
theorem dX5_wrong_53 : decode cX5_wrong 53 = .ok (.iload_n 1, 1) := by decide +kernel
theorem dX5_wrong_54 : decode cX5_wrong 54 = .ok (.iload_n 2, 1) := by decide +kernel
theorem dX5_wrong_55 : decode cX5_wrong 55 = .ok (.ifCond .eq 7, 3) := by decide +kernel
theorem dX5_wrong_58 : decode cX5_wrong 58 = .ok (.iconst 1, 1) := by decide +kernel
theorem dX5_wrong_59 : decode cX5_wrong 59 = .ok (.goto 4, 3) := by decide +kernel
theorem dX5_wrong_62 : decode cX5_wrong 62 = .ok (.iconst 0, 1) := by decide +kernel
theorem dX5_wrong_63 : decode cX5_wrong 63 = .ok (.iadd, 1) := by decide +kernel
theorem dX5_wrong_64 : decode cX5_wrong 64 = .ok (.istore_n 1, 1) := by decide +kernel
theorem dX5_wrong_65 : decode cX5_wrong 65 = .ok (.goto (-61), 3) := by decide +kernel
theorem dX5_wrong_68 : decode cX5_wrong 68 = .ok (.iconst (-1), 1) := by decide +kernel
theorem dX5_wrong_69 : decode cX5_wrong 69 = .ok (.ireturn, 1) := by decide +kernel
theorem dX5_firstError_0 : decode cX5_firstError 0 = .ok (.aload_n 0, 1) := by decide +kernel
theorem dX5_firstError_1 : decode cX5_firstError 1 = .ok (.iconst 0, 1) := by decide +kernel
theorem dX5_firstError_2 : decode cX5_firstError 2 = .ok (.putfield 35, 3) := by decide +kernel
theorem dX5_firstError_5 : decode cX5_firstError 5 = .ok (.aload_n 0, 1) := by decide +kernel
theorem dX5_firstError_6 : decode cX5_firstError 6 = .ok (.invokevirtual 119, 3) := by decide +kernel
theorem dX5_firstError_9 : decode cX5_firstError 9 = .ok (.iconst (-1), 1) := by decide +kernel
theorem dX5_firstError_10 : decode cX5_firstError 10 = .ok (.if_icmp .ne 10, 3) := by decide +kernel
theorem dX5_firstError_13 : decode cX5_firstError 13 = .ok (.aload_n 0, 1) := by decide +kernel
theorem dX5_firstError_14 : decode cX5_firstError 14 = .ok (.getfield 104, 3) := by decide +kernel
theorem dX5_firstError_17 : decode cX5_firstError 17 = .ok (.goto 7, 3) := by decide +kernel
theorem dX5_firstError_20 : decode cX5_firstError 20 = .ok (.aload_n 0, 1) := by decide +kernel
theorem dX5_firstError_21 : decode cX5_firstError 21 = .ok (.invokevirtual 119, 3) := by decide +kernel
theorem dX5_firstError_24 : decode cX5_firstError 24 = .ok (.ireturn, 1) := by decide +kernel
theorem dX5_does_0 : decode cX5_does 0 = .ok (.aload_n 0, 1) := by decide +kernel
theorem dX5_does_1 : decode cX5_does 1 = .ok (.iload_n 1, 1) := by decide +kernel
theorem dX5_does_2 : decode cX5_does 2 = .ok (.invokevirtual 110, 3) := by decide +kernel
theorem dX5_does_5 : decode cX5_does 5 = .ok (.istore_n 3, 1) := by decide +kernel
theorem dX5_does_6 : decode cX5_does 6 = .ok (.aload_n 0, 1) := by decide +kernel
theorem dX5_does_7 : decode cX5_does 7 = .ok (.iload_n 1, 1) := by decide +kernel
theorem dX5_does_8 : decode cX5_does 8 = .ok (.iconst 1, 1) := by decide +kernel
theorem dX5_does_9 : decode cX5_does 9 = .ok (.iadd, 1) := by decide +kernel
theorem dX5_does_10 : decode cX5_does 10 = .ok (.invokevirtual 107, 3) := by decide +kernel
theorem dX5_does_13 : decode cX5_does 13 = .ok (.bipush 62, 2) := by decide +kernel
theorem dX5_does_15 : decode cX5_does 15 = .ok (.if_icmp .ne 35, 3) := by decide +kernel
theorem dX5_does_18 : decode cX5_does 18 = .ok (.aload_n 0, 1) := by decide +kernel
theorem dX5_does_19 : decode cX5_does 19 = .ok (.iload_n 3, 1) := by decide +kernel
theorem dX5_does_20 : decode cX5_does 20 = .ok (.aload_n 0, 1) := by decide +kernel
theorem dX5_does_21 : decode cX5_does 21 = .ok (.iload_n 1, 1) := by decide +kernel
theorem dX5_does_22 : decode cX5_does 22 = .ok (.iconst 2, 1) := by decide +kernel
theorem dX5_does_23 : decode cX5_does 23 = .ok (.iadd, 1) := by decide +kernel
theorem dX5_does_24 : decode cX5_does 24 = .ok (.invokevirtual 110, 3) := by decide +kernel
theorem dX5_does_27 : decode cX5_does 27 = .ok (.invokevirtual 92, 3) := by decide +kernel
theorem dX5_does_30 : decode cX5_does 30 = .ok (.istore 4, 2) := by decide +kernel
theorem dX5_does_32 : decode cX5_does 32 = .ok (.iload 4, 2) := by decide +kernel
theorem dX5_does_34 : decode cX5_does 34 = .ok (.ifCond .eq 10, 3) := by decide +kernel
theorem dX5_does_37 : decode cX5_does 37 = .ok (.iload 4, 2) := by decide +kernel
theorem dX5_does_39 : decode cX5_does 39 = .ok (.bipush 10, 2) := by decide +kernel
theorem dX5_does_41 : decode cX5_does 41 = .ok (.if_icmp .lt 7, 3) := by decide +kernel
theorem dX5_does_44 : decode cX5_does 44 = .ok (.iconst 1, 1) := by decide +kernel
theorem dX5_does_45 : decode cX5_does 45 = .ok (.goto 4, 3) := by decide +kernel
theorem dX5_does_48 : decode cX5_does 48 = .ok (.iconst 0, 1) := by decide +kernel
theorem dX5_does_49 : decode cX5_does 49 = .ok (.ireturn, 1) := by decide +kernel
theorem dX5_does_50 : decode cX5_does 50 = .ok (.aload_n 0, 1) := by decide +kernel
theorem dX5_does_51 : decode cX5_does 51 = .ok (.iload_n 1, 1) := by decide +kernel
theorem dX5_does_52 : decode cX5_does 52 = .ok (.iconst 1, 1) := by decide +kernel
theorem dX5_does_53 : decode cX5_does 53 = .ok (.iadd, 1) := by decide +kernel
theorem dX5_does_54 : decode cX5_does 54 = .ok (.invokevirtual 107, 3) := by decide +kernel
theorem dX5_does_57 : decode cX5_does 57 = .ok (.bipush 126, 2) := by decide +kernel
theorem dX5_does_59 : decode cX5_does 59 = .ok (.if_icmp .ne 25, 3) := by decide +kernel
theorem dX5_does_62 : decode cX5_does 62 = .ok (.aload_n 0, 1) := by decide +kernel
theorem dX5_does_63 : decode cX5_does 63 = .ok (.iload_n 3, 1) := by decide +kernel
theorem dX5_does_64 : decode cX5_does 64 = .ok (.aload_n 0, 1) := by decide +kernel
theorem dX5_does_65 : decode cX5_does 65 = .ok (.iload_n 1, 1) := by decide +kernel
theorem dX5_does_66 : decode cX5_does 66 = .ok (.iconst 2, 1) := by decide +kernel
theorem dX5_does_67 : decode cX5_does 67 = .ok (.iadd, 1) := by decide +kernel
theorem dX5_does_68 : decode cX5_does 68 = .ok (.invokevirtual 110, 3) := by decide +kernel
theorem dX5_does_71 : decode cX5_does 71 = .ok (.invokevirtual 95, 3) := by decide +kernel
theorem dX5_does_74 : decode cX5_does 74 = .ok (.iconst (-1), 1) := by decide +kernel
theorem dX5_does_75 : decode cX5_does 75 = .ok (.if_icmp .eq 7, 3) := by decide +kernel
theorem dX5_does_78 : decode cX5_does 78 = .ok (.iconst 1, 1) := by decide +kernel
theorem dX5_does_79 : decode cX5_does 79 = .ok (.goto 4, 3) := by decide +kernel
theorem dX5_does_82 : decode cX5_does 82 = .ok (.iconst 0, 1) := by decide +kernel
theorem dX5_does_83 : decode cX5_does 83 = .ok (.ireturn, 1) := by decide +kernel
theorem dX5_does_84 : decode cX5_does 84 = .ok (.iconst 0, 1) := by decide +kernel
theorem dX5_does_85 : decode cX5_does 85 = .ok (.istore 4, 2) := by decide +kernel
theorem dX5_does_87 : decode cX5_does 87 = .ok (.iload_n 1, 1) := by decide +kernel
theorem dX5_does_88 : decode cX5_does 88 = .ok (.iconst 2, 1) := by decide +kernel
theorem dX5_does_89 : decode cX5_does 89 = .ok (.iadd, 1) := by decide +kernel
theorem dX5_does_90 : decode cX5_does 90 = .ok (.istore 5, 2) := by decide +kernel
theorem dX5_does_92 : decode cX5_does 92 = .ok (.iload 5, 2) := by decide +kernel
theorem dX5_does_94 : decode cX5_does 94 = .ok (.iload_n 2, 1) := by decide +kernel
theorem dX5_does_95 : decode cX5_does 95 = .ok (.if_icmp .ge 23, 3) := by decide +kernel
theorem dX5_does_98 : decode cX5_does 98 = .ok (.bipush 10, 2) := by decide +kernel
theorem dX5_does_100 : decode cX5_does 100 = .ok (.iload 4, 2) := by decide +kernel
theorem dX5_does_102 : decode cX5_does 102 = .ok (.imul, 1) := by decide +kernel
theorem dX5_does_103 : decode cX5_does 103 = .ok (.aload_n 0, 1) := by decide +kernel
theorem dX5_does_104 : decode cX5_does 104 = .ok (.iload 5, 2) := by decide +kernel
theorem dX5_does_106 : decode cX5_does 106 = .ok (.invokevirtual 110, 3) := by decide +kernel
theorem dX5_does_109 : decode cX5_does 109 = .ok (.iadd, 1) := by decide +kernel
theorem dX5_does_110 : decode cX5_does 110 = .ok (.istore 4, 2) := by decide +kernel
theorem dX5_does_112 : decode cX5_does 112 = .ok (.iinc 5 1, 3) := by decide +kernel
theorem dX5_does_115 : decode cX5_does 115 = .ok (.goto (-23), 3) := by decide +kernel
theorem dX5_does_118 : decode cX5_does 118 = .ok (.aload_n 0, 1) := by decide +kernel
theorem dX5_does_119 : decode cX5_does 119 = .ok (.iload_n 3, 1) := by decide +kernel
theorem dX5_does_120 : decode cX5_does 120 = .ok (.iload 4, 2) := by decide +kernel
theorem dX5_does_122 : decode cX5_does 122 = .ok (.invokevirtual 76, 3) := by decide +kernel
theorem dX5_does_125 : decode cX5_does 125 = .ok (.bipush 10, 2) := by decide +kernel
theorem dX5_does_127 : decode cX5_does 127 = .ok (.if_icmp .lt 7, 3) := by decide +kernel
theorem dX5_does_130 : decode cX5_does 130 = .ok (.iconst 1, 1) := by decide +kernel
theorem dX5_does_131 : decode cX5_does 131 = .ok (.goto 4, 3) := by decide +kernel
theorem dX5_does_134 : decode cX5_does 134 = .ok (.iconst 0, 1) := by decide +kernel
theorem dX5_does_135 : decode cX5_does 135 = .ok (.ireturn, 1) := by decide +kernel
theorem dX5_run_0 : decode cX5_run 0 = .ok (.aload_n 0, 1) := by decide +kernel
theorem dX5_run_1 : decode cX5_run 1 = .ok (.aload_n 0, 1) := by decide +kernel
theorem dX5_run_2 : decode cX5_run 2 = .ok (.invokevirtual 119, 3) := by decide +kernel
theorem dX5_run_5 : decode cX5_run 5 = .ok (.iconst (-1), 1) := by decide +kernel
theorem dX5_run_6 : decode cX5_run 6 = .ok (.if_icmp .ne 7, 3) := by decide +kernel
theorem dX5_run_9 : decode cX5_run 9 = .ok (.iconst 0, 1) := by decide +kernel
theorem dX5_run_10 : decode cX5_run 10 = .ok (.goto 4, 3) := by decide +kernel
theorem dX5_run_13 : decode cX5_run 13 = .ok (.iconst 1, 1) := by decide +kernel
theorem dX5_run_14 : decode cX5_run 14 = .ok (.invokevirtual 86, 3) := by decide +kernel
theorem dX5_run_17 : decode cX5_run 17 = .ok (.ifCond .ne 5, 3) := by decide +kernel
theorem dX5_run_20 : decode cX5_run 20 = .ok (.iconst 0, 1) := by decide +kernel
theorem dX5_run_21 : decode cX5_run 21 = .ok (.ireturn, 1) := by decide +kernel
theorem dX5_run_22 : decode cX5_run 22 = .ok (.aload_n 0, 1) := by decide +kernel
theorem dX5_run_23 : decode cX5_run 23 = .ok (.invokevirtual 89, 3) := by decide +kernel
theorem dX5_run_26 : decode cX5_run 26 = .ok (.iconst 0, 1) := by decide +kernel
theorem dX5_run_27 : decode cX5_run 27 = .ok (.istore_n 1, 1) := by decide +kernel
theorem dX5_run_28 : decode cX5_run 28 = .ok (.iconst 0, 1) := by decide +kernel
theorem dX5_run_29 : decode cX5_run 29 = .ok (.istore_n 2, 1) := by decide +kernel
theorem dX5_run_30 : decode cX5_run 30 = .ok (.iconst 1, 1) := by decide +kernel
theorem dX5_run_31 : decode cX5_run 31 = .ok (.istore_n 3, 1) := by decide +kernel
theorem dX5_run_32 : decode cX5_run 32 = .ok (.iload_n 3, 1) := by decide +kernel
theorem dX5_run_33 : decode cX5_run 33 = .ok (.ifCond .eq 46, 3) := by decide +kernel
theorem dX5_run_36 : decode cX5_run 36 = .ok (.iload_n 2, 1) := by decide +kernel
theorem dX5_run_37 : decode cX5_run 37 = .ok (.aload_n 0, 1) := by decide +kernel
theorem dX5_run_38 : decode cX5_run 38 = .ok (.getfield 104, 3) := by decide +kernel
theorem dX5_run_41 : decode cX5_run 41 = .ok (.if_icmp .ge 38, 3) := by decide +kernel
theorem dX5_run_44 : decode cX5_run 44 = .ok (.aload_n 0, 1) := by decide +kernel
theorem dX5_run_45 : decode cX5_run 45 = .ok (.iload_n 2, 1) := by decide +kernel
theorem dX5_run_46 : decode cX5_run 46 = .ok (.invokevirtual 116, 3) := by decide +kernel
theorem dX5_run_49 : decode cX5_run 49 = .ok (.istore 4, 2) := by decide +kernel
theorem dX5_run_51 : decode cX5_run 51 = .ok (.aload_n 0, 1) := by decide +kernel
theorem dX5_run_52 : decode cX5_run 52 = .ok (.iload_n 2, 1) := by decide +kernel
theorem dX5_run_53 : decode cX5_run 53 = .ok (.iload 4, 2) := by decide +kernel
theorem dX5_run_55 : decode cX5_run 55 = .ok (.invokevirtual 123, 3) := by decide +kernel
theorem dX5_run_58 : decode cX5_run 58 = .ok (.istore_n 3, 1) := by decide +kernel
theorem dX5_run_59 : decode cX5_run 59 = .ok (.iload_n 1, 1) := by decide +kernel
theorem dX5_run_60 : decode cX5_run 60 = .ok (.iload_n 3, 1) := by decide +kernel
theorem dX5_run_61 : decode cX5_run 61 = .ok (.ifCond .eq 7, 3) := by decide +kernel
theorem dX5_run_64 : decode cX5_run 64 = .ok (.iconst 1, 1) := by decide +kernel
theorem dX5_run_65 : decode cX5_run 65 = .ok (.goto 4, 3) := by decide +kernel
theorem dX5_run_68 : decode cX5_run 68 = .ok (.iconst 0, 1) := by decide +kernel
theorem dX5_run_69 : decode cX5_run 69 = .ok (.iadd, 1) := by decide +kernel
theorem dX5_run_70 : decode cX5_run 70 = .ok (.istore_n 1, 1) := by decide +kernel
theorem dX5_run_71 : decode cX5_run 71 = .ok (.iload 4, 2) := by decide +kernel
theorem dX5_run_73 : decode cX5_run 73 = .ok (.iconst 1, 1) := by decide +kernel
theorem dX5_run_74 : decode cX5_run 74 = .ok (.iadd, 1) := by decide +kernel
theorem dX5_run_75 : decode cX5_run 75 = .ok (.istore_n 2, 1) := by decide +kernel
theorem dX5_run_76 : decode cX5_run 76 = .ok (.goto (-44), 3) := by decide +kernel
theorem dX5_run_79 : decode cX5_run 79 = .ok (.aload_n 0, 1) := by decide +kernel
theorem dX5_run_80 : decode cX5_run 80 = .ok (.iconst 0, 1) := by decide +kernel
theorem dX5_run_81 : decode cX5_run 81 = .ok (.putfield 104, 3) := by decide +kernel
theorem dX5_run_84 : decode cX5_run 84 = .ok (.iload_n 1, 1) := by decide +kernel
theorem dX5_run_85 : decode cX5_run 85 = .ok (.ireturn, 1) := by decide +kernel
theorem dX5_keep_0 : decode cX5_keep 0 = .ok (.aload_n 0, 1) := by decide +kernel
theorem dX5_keep_1 : decode cX5_keep 1 = .ok (.iload_n 1, 1) := by decide +kernel
theorem dX5_keep_2 : decode cX5_keep 2 = .ok (.iconst 0, 1) := by decide +kernel
theorem dX5_keep_3 : decode cX5_keep 3 = .ok (.iconst 1, 1) := by decide +kernel
theorem dX5_keep_4 : decode cX5_keep 4 = .ok (.invokestatic 39, 3) := by decide +kernel
theorem dX5_keep_7 : decode cX5_keep 7 = .ok (.ifCond .eq 7, 3) := by decide +kernel
theorem dX5_keep_10 : decode cX5_keep 10 = .ok (.iconst 0, 1) := by decide +kernel
theorem dX5_keep_11 : decode cX5_keep 11 = .ok (.goto 4, 3) := by decide +kernel
theorem dX5_keep_14 : decode cX5_keep 14 = .ok (.iconst 1, 1) := by decide +kernel
theorem dX5_keep_15 : decode cX5_keep 15 = .ok (.invokevirtual 86, 3) := by decide +kernel
theorem dX5_keep_18 : decode cX5_keep 18 = .ok (.ifCond .ne 5, 3) := by decide +kernel
theorem dX5_keep_21 : decode cX5_keep 21 = .ok (.iconst 0, 1) := by decide +kernel
theorem dX5_keep_22 : decode cX5_keep 22 = .ok (.ireturn, 1) := by decide +kernel
theorem dX5_keep_23 : decode cX5_keep 23 = .ok (.iconst 0, 1) := by decide +kernel
theorem dX5_keep_24 : decode cX5_keep 24 = .ok (.istore_n 2, 1) := by decide +kernel
theorem dX5_keep_25 : decode cX5_keep 25 = .ok (.iload_n 2, 1) := by decide +kernel
theorem dX5_keep_26 : decode cX5_keep 26 = .ok (.sipush 223, 3) := by decide +kernel
theorem dX5_keep_29 : decode cX5_keep 29 = .ok (.if_icmp .ge 27, 3) := by decide +kernel
theorem dX5_keep_32 : decode cX5_keep 32 = .ok (.aload_n 0, 1) := by decide +kernel
theorem dX5_keep_33 : decode cX5_keep 33 = .ok (.getfield 16, 3) := by decide +kernel
theorem dX5_keep_36 : decode cX5_keep 36 = .ok (.sipush 223, 3) := by decide +kernel
theorem dX5_keep_39 : decode cX5_keep 39 = .ok (.iload_n 1, 1) := by decide +kernel
theorem dX5_keep_40 : decode cX5_keep 40 = .ok (.imul, 1) := by decide +kernel
theorem dX5_keep_41 : decode cX5_keep 41 = .ok (.iload_n 2, 1) := by decide +kernel
theorem dX5_keep_42 : decode cX5_keep 42 = .ok (.iadd, 1) := by decide +kernel
theorem dX5_keep_43 : decode cX5_keep 43 = .ok (.aload_n 0, 1) := by decide +kernel
theorem dX5_keep_44 : decode cX5_keep 44 = .ok (.getfield 7, 3) := by decide +kernel
theorem dX5_keep_47 : decode cX5_keep 47 = .ok (.iload_n 2, 1) := by decide +kernel
theorem dX5_keep_48 : decode cX5_keep 48 = .ok (.iaload, 1) := by decide +kernel
theorem dX5_keep_49 : decode cX5_keep 49 = .ok (.iastore, 1) := by decide +kernel
theorem dX5_keep_50 : decode cX5_keep 50 = .ok (.iinc 2 1, 3) := by decide +kernel
theorem dX5_keep_53 : decode cX5_keep 53 = .ok (.goto (-28), 3) := by decide +kernel
theorem dX5_keep_56 : decode cX5_keep 56 = .ok (.aload_n 0, 1) := by decide +kernel
theorem dX5_keep_57 : decode cX5_keep 57 = .ok (.getfield 19, 3) := by decide +kernel
theorem dX5_keep_60 : decode cX5_keep 60 = .ok (.iload_n 1, 1) := by decide +kernel
theorem dX5_keep_61 : decode cX5_keep 61 = .ok (.iconst 1, 1) := by decide +kernel
theorem dX5_keep_62 : decode cX5_keep 62 = .ok (.bastore, 1) := by decide +kernel
theorem dX5_keep_63 : decode cX5_keep 63 = .ok (.aload_n 0, 1) := by decide +kernel
theorem dX5_keep_64 : decode cX5_keep 64 = .ok (.invokevirtual 127, 3) := by decide +kernel
theorem dX5_keep_67 : decode cX5_keep 67 = .ok (.ireturn, 1) := by decide +kernel
theorem dX5_goBack_0 : decode cX5_goBack 0 = .ok (.iload_n 1, 1) := by decide +kernel
theorem dX5_goBack_1 : decode cX5_goBack 1 = .ok (.iconst 0, 1) := by decide +kernel
theorem dX5_goBack_2 : decode cX5_goBack 2 = .ok (.iconst 1, 1) := by decide +kernel
theorem dX5_goBack_3 : decode cX5_goBack 3 = .ok (.invokestatic 39, 3) := by decide +kernel
theorem dX5_goBack_6 : decode cX5_goBack 6 = .ok (.istore_n 2, 1) := by decide +kernel
theorem dX5_goBack_7 : decode cX5_goBack 7 = .ok (.aload_n 0, 1) := by decide +kernel
theorem dX5_goBack_8 : decode cX5_goBack 8 = .ok (.iload_n 2, 1) := by decide +kernel
theorem dX5_goBack_9 : decode cX5_goBack 9 = .ok (.ifCond .ne 7, 3) := by decide +kernel
theorem dX5_goBack_12 : decode cX5_goBack 12 = .ok (.iconst 1, 1) := by decide +kernel
theorem dX5_goBack_13 : decode cX5_goBack 13 = .ok (.goto 17, 3) := by decide +kernel
theorem dX5_goBack_16 : decode cX5_goBack 16 = .ok (.aload_n 0, 1) := by decide +kernel
theorem dX5_goBack_17 : decode cX5_goBack 17 = .ok (.getfield 19, 3) := by decide +kernel
theorem dX5_goBack_20 : decode cX5_goBack 20 = .ok (.iload_n 1, 1) := by decide +kernel
theorem dX5_goBack_21 : decode cX5_goBack 21 = .ok (.baload, 1) := by decide +kernel
theorem dX5_goBack_22 : decode cX5_goBack 22 = .ok (.ifCond .ne 7, 3) := by decide +kernel
theorem dX5_goBack_25 : decode cX5_goBack 25 = .ok (.iconst 2, 1) := by decide +kernel
theorem dX5_goBack_26 : decode cX5_goBack 26 = .ok (.goto 4, 3) := by decide +kernel
theorem dX5_goBack_29 : decode cX5_goBack 29 = .ok (.iconst 0, 1) := by decide +kernel
theorem dX5_goBack_30 : decode cX5_goBack 30 = .ok (.invokevirtual 86, 3) := by decide +kernel
theorem dX5_goBack_33 : decode cX5_goBack 33 = .ok (.ifCond .ne 5, 3) := by decide +kernel
theorem dX5_goBack_36 : decode cX5_goBack 36 = .ok (.iconst 0, 1) := by decide +kernel
theorem dX5_goBack_37 : decode cX5_goBack 37 = .ok (.ireturn, 1) := by decide +kernel
theorem dX5_goBack_38 : decode cX5_goBack 38 = .ok (.aload_n 0, 1) := by decide +kernel
theorem dX5_goBack_39 : decode cX5_goBack 39 = .ok (.invokevirtual 89, 3) := by decide +kernel
theorem dX5_goBack_42 : decode cX5_goBack 42 = .ok (.iconst 0, 1) := by decide +kernel
theorem dX5_goBack_43 : decode cX5_goBack 43 = .ok (.istore_n 3, 1) := by decide +kernel
theorem dX5_goBack_44 : decode cX5_goBack 44 = .ok (.iload_n 3, 1) := by decide +kernel
theorem dX5_goBack_45 : decode cX5_goBack 45 = .ok (.sipush 223, 3) := by decide +kernel
theorem dX5_goBack_48 : decode cX5_goBack 48 = .ok (.if_icmp .ge 27, 3) := by decide +kernel
theorem dX5_goBack_51 : decode cX5_goBack 51 = .ok (.aload_n 0, 1) := by decide +kernel
theorem dX5_goBack_52 : decode cX5_goBack 52 = .ok (.getfield 7, 3) := by decide +kernel
theorem dX5_goBack_55 : decode cX5_goBack 55 = .ok (.iload_n 3, 1) := by decide +kernel
theorem dX5_goBack_56 : decode cX5_goBack 56 = .ok (.aload_n 0, 1) := by decide +kernel
theorem dX5_goBack_57 : decode cX5_goBack 57 = .ok (.getfield 16, 3) := by decide +kernel
theorem dX5_goBack_60 : decode cX5_goBack 60 = .ok (.sipush 223, 3) := by decide +kernel
theorem dX5_goBack_63 : decode cX5_goBack 63 = .ok (.iload_n 1, 1) := by decide +kernel
theorem dX5_goBack_64 : decode cX5_goBack 64 = .ok (.imul, 1) := by decide +kernel
theorem dX5_goBack_65 : decode cX5_goBack 65 = .ok (.iload_n 3, 1) := by decide +kernel
theorem dX5_goBack_66 : decode cX5_goBack 66 = .ok (.iadd, 1) := by decide +kernel
theorem dX5_goBack_67 : decode cX5_goBack 67 = .ok (.iaload, 1) := by decide +kernel
theorem dX5_goBack_68 : decode cX5_goBack 68 = .ok (.iastore, 1) := by decide +kernel
theorem dX5_goBack_69 : decode cX5_goBack 69 = .ok (.iinc 3 1, 3) := by decide +kernel
theorem dX5_goBack_72 : decode cX5_goBack 72 = .ok (.goto (-28), 3) := by decide +kernel
theorem dX5_goBack_75 : decode cX5_goBack 75 = .ok (.aload_n 0, 1) := by decide +kernel
theorem dX5_goBack_76 : decode cX5_goBack 76 = .ok (.invokevirtual 127, 3) := by decide +kernel
theorem dX5_goBack_79 : decode cX5_goBack 79 = .ok (.ireturn, 1) := by decide +kernel
theorem dX5_undo_0 : decode cX5_undo 0 = .ok (.aload_n 0, 1) := by decide +kernel
theorem dX5_undo_1 : decode cX5_undo 1 = .ok (.aload_n 0, 1) := by decide +kernel
theorem dX5_undo_2 : decode cX5_undo 2 = .ok (.getfield 47, 3) := by decide +kernel
theorem dX5_undo_5 : decode cX5_undo 5 = .ok (.ifCond .le 7, 3) := by decide +kernel
theorem dX5_undo_8 : decode cX5_undo 8 = .ok (.iconst 0, 1) := by decide +kernel
theorem dX5_undo_9 : decode cX5_undo 9 = .ok (.goto 4, 3) := by decide +kernel
theorem dX5_undo_12 : decode cX5_undo 12 = .ok (.iconst 1, 1) := by decide +kernel
theorem dX5_undo_13 : decode cX5_undo 13 = .ok (.invokevirtual 86, 3) := by decide +kernel
theorem dX5_undo_16 : decode cX5_undo 16 = .ok (.ifCond .ne 5, 3) := by decide +kernel
theorem dX5_undo_19 : decode cX5_undo 19 = .ok (.iconst 0, 1) := by decide +kernel
theorem dX5_undo_20 : decode cX5_undo 20 = .ok (.ireturn, 1) := by decide +kernel
theorem dX5_undo_21 : decode cX5_undo 21 = .ok (.aload_n 0, 1) := by decide +kernel
theorem dX5_undo_22 : decode cX5_undo 22 = .ok (.dup, 1) := by decide +kernel
theorem dX5_undo_23 : decode cX5_undo 23 = .ok (.getfield 47, 3) := by decide +kernel
theorem dX5_undo_26 : decode cX5_undo 26 = .ok (.iconst 1, 1) := by decide +kernel
theorem dX5_undo_27 : decode cX5_undo 27 = .ok (.isub, 1) := by decide +kernel
theorem dX5_undo_28 : decode cX5_undo 28 = .ok (.putfield 47, 3) := by decide +kernel
theorem dX5_undo_31 : decode cX5_undo 31 = .ok (.iconst 0, 1) := by decide +kernel
theorem dX5_undo_32 : decode cX5_undo 32 = .ok (.istore_n 1, 1) := by decide +kernel
theorem dX5_undo_33 : decode cX5_undo 33 = .ok (.iload_n 1, 1) := by decide +kernel
theorem dX5_undo_34 : decode cX5_undo 34 = .ok (.sipush 223, 3) := by decide +kernel
theorem dX5_undo_37 : decode cX5_undo 37 = .ok (.if_icmp .ge 30, 3) := by decide +kernel
theorem dX5_undo_40 : decode cX5_undo 40 = .ok (.aload_n 0, 1) := by decide +kernel
theorem dX5_undo_41 : decode cX5_undo 41 = .ok (.getfield 7, 3) := by decide +kernel
theorem dX5_undo_44 : decode cX5_undo 44 = .ok (.iload_n 1, 1) := by decide +kernel
theorem dX5_undo_45 : decode cX5_undo 45 = .ok (.aload_n 0, 1) := by decide +kernel
theorem dX5_undo_46 : decode cX5_undo 46 = .ok (.getfield 23, 3) := by decide +kernel
theorem dX5_undo_49 : decode cX5_undo 49 = .ok (.sipush 223, 3) := by decide +kernel
theorem dX5_undo_52 : decode cX5_undo 52 = .ok (.aload_n 0, 1) := by decide +kernel
theorem dX5_undo_53 : decode cX5_undo 53 = .ok (.getfield 47, 3) := by decide +kernel
theorem dX5_undo_56 : decode cX5_undo 56 = .ok (.imul, 1) := by decide +kernel
theorem dX5_undo_57 : decode cX5_undo 57 = .ok (.iload_n 1, 1) := by decide +kernel
theorem dX5_undo_58 : decode cX5_undo 58 = .ok (.iadd, 1) := by decide +kernel
theorem dX5_undo_59 : decode cX5_undo 59 = .ok (.iaload, 1) := by decide +kernel
theorem dX5_undo_60 : decode cX5_undo 60 = .ok (.iastore, 1) := by decide +kernel
theorem dX5_undo_61 : decode cX5_undo 61 = .ok (.iinc 1 1, 3) := by decide +kernel
theorem dX5_undo_64 : decode cX5_undo 64 = .ok (.goto (-31), 3) := by decide +kernel
theorem dX5_undo_67 : decode cX5_undo 67 = .ok (.aload_n 0, 1) := by decide +kernel
theorem dX5_undo_68 : decode cX5_undo 68 = .ok (.getfield 47, 3) := by decide +kernel
theorem dX5_undo_71 : decode cX5_undo 71 = .ok (.ireturn, 1) := by decide +kernel
theorem dX5_loopsOf_0 : decode cX5_loopsOf 0 = .ok (.iconst 0, 1) := by decide +kernel
theorem dX5_loopsOf_1 : decode cX5_loopsOf 1 = .ok (.istore_n 2, 1) := by decide +kernel
theorem dX5_loopsOf_2 : decode cX5_loopsOf 2 = .ok (.iconst 0, 1) := by decide +kernel
theorem dX5_loopsOf_3 : decode cX5_loopsOf 3 = .ok (.istore_n 3, 1) := by decide +kernel
theorem dX5_loopsOf_4 : decode cX5_loopsOf 4 = .ok (.iload_n 3, 1) := by decide +kernel
theorem dX5_loopsOf_5 : decode cX5_loopsOf 5 = .ok (.bipush 6, 2) := by decide +kernel
theorem dX5_loopsOf_7 : decode cX5_loopsOf 7 = .ok (.if_icmp .ge 21, 3) := by decide +kernel
theorem dX5_loopsOf_10 : decode cX5_loopsOf 10 = .ok (.iload_n 2, 1) := by decide +kernel
theorem dX5_loopsOf_11 : decode cX5_loopsOf 11 = .ok (.aload_n 0, 1) := by decide +kernel
theorem dX5_loopsOf_12 : decode cX5_loopsOf 12 = .ok (.iload_n 1, 1) := by decide +kernel
theorem dX5_loopsOf_13 : decode cX5_loopsOf 13 = .ok (.bipush 25, 2) := by decide +kernel
theorem dX5_loopsOf_15 : decode cX5_loopsOf 15 = .ok (.iload_n 3, 1) := by decide +kernel
theorem dX5_loopsOf_16 : decode cX5_loopsOf 16 = .ok (.iadd, 1) := by decide +kernel
theorem dX5_loopsOf_17 : decode cX5_loopsOf 17 = .ok (.invokevirtual 50, 3) := by decide +kernel
theorem dX5_loopsOf_20 : decode cX5_loopsOf 20 = .ok (.iadd, 1) := by decide +kernel
theorem dX5_loopsOf_21 : decode cX5_loopsOf 21 = .ok (.istore_n 2, 1) := by decide +kernel
theorem dX5_loopsOf_22 : decode cX5_loopsOf 22 = .ok (.iinc 3 1, 3) := by decide +kernel
theorem dX5_loopsOf_25 : decode cX5_loopsOf 25 = .ok (.goto (-21), 3) := by decide +kernel
theorem dX5_loopsOf_28 : decode cX5_loopsOf 28 = .ok (.iload_n 2, 1) := by decide +kernel
theorem dX5_loopsOf_29 : decode cX5_loopsOf 29 = .ok (.ireturn, 1) := by decide +kernel
theorem dX5_number_0 : decode cX5_number 0 = .ok (.iload_n 2, 1) := by decide +kernel
theorem dX5_number_1 : decode cX5_number 1 = .ok (.tableswitch 87 0 6 #[43, 49, 55, 62, 68, 74, 80], 43) := by decide +kernel
theorem dX5_number_44 : decode cX5_number 44 = .ok (.aload_n 0, 1) := by decide +kernel
theorem dX5_number_45 : decode cX5_number 45 = .ok (.iload_n 1, 1) := by decide +kernel
theorem dX5_number_46 : decode cX5_number 46 = .ok (.invokevirtual 60, 3) := by decide +kernel
theorem dX5_number_49 : decode cX5_number 49 = .ok (.ireturn, 1) := by decide +kernel
theorem dX5_number_50 : decode cX5_number 50 = .ok (.aload_n 0, 1) := by decide +kernel
theorem dX5_number_51 : decode cX5_number 51 = .ok (.iload_n 1, 1) := by decide +kernel
theorem dX5_number_52 : decode cX5_number 52 = .ok (.invokevirtual 56, 3) := by decide +kernel
theorem dX5_number_55 : decode cX5_number 55 = .ok (.ireturn, 1) := by decide +kernel
theorem dX5_number_56 : decode cX5_number 56 = .ok (.aload_n 0, 1) := by decide +kernel
theorem dX5_number_57 : decode cX5_number 57 = .ok (.iload_n 1, 1) := by decide +kernel
theorem dX5_number_58 : decode cX5_number 58 = .ok (.iconst 1, 1) := by decide +kernel
theorem dX5_number_59 : decode cX5_number 59 = .ok (.invokevirtual 50, 3) := by decide +kernel
theorem dX5_number_62 : decode cX5_number 62 = .ok (.ireturn, 1) := by decide +kernel
theorem dX5_number_63 : decode cX5_number 63 = .ok (.aload_n 0, 1) := by decide +kernel
theorem dX5_number_64 : decode cX5_number 64 = .ok (.iload_n 1, 1) := by decide +kernel
theorem dX5_number_65 : decode cX5_number 65 = .ok (.invokevirtual 79, 3) := by decide +kernel
theorem dX5_number_68 : decode cX5_number 68 = .ok (.ireturn, 1) := by decide +kernel
theorem dX5_number_69 : decode cX5_number 69 = .ok (.aload_n 0, 1) := by decide +kernel
theorem dX5_number_70 : decode cX5_number 70 = .ok (.iload_n 1, 1) := by decide +kernel
theorem dX5_number_71 : decode cX5_number 71 = .ok (.invokevirtual 63, 3) := by decide +kernel
theorem dX5_number_74 : decode cX5_number 74 = .ok (.ireturn, 1) := by decide +kernel
theorem dX5_number_75 : decode cX5_number 75 = .ok (.aload_n 0, 1) := by decide +kernel
theorem dX5_number_76 : decode cX5_number 76 = .ok (.iload_n 1, 1) := by decide +kernel
theorem dX5_number_77 : decode cX5_number 77 = .ok (.invokevirtual 130, 3) := by decide +kernel
theorem dX5_number_80 : decode cX5_number 80 = .ok (.ireturn, 1) := by decide +kernel
theorem dX5_number_81 : decode cX5_number 81 = .ok (.aload_n 0, 1) := by decide +kernel
theorem dX5_number_82 : decode cX5_number 82 = .ok (.iload_n 1, 1) := by decide +kernel
theorem dX5_number_83 : decode cX5_number 83 = .ok (.iconst 0, 1) := by decide +kernel
theorem dX5_number_84 : decode cX5_number 84 = .ok (.invokevirtual 50, 3) := by decide +kernel
theorem dX5_number_87 : decode cX5_number 87 = .ok (.ireturn, 1) := by decide +kernel
theorem dX5_number_88 : decode cX5_number 88 = .ok (.aload_n 0, 1) := by decide +kernel
theorem dX5_number_89 : decode cX5_number 89 = .ok (.iload_n 1, 1) := by decide +kernel
theorem dX5_number_90 : decode cX5_number 90 = .ok (.iconst 2, 1) := by decide +kernel
theorem dX5_number_91 : decode cX5_number 91 = .ok (.invokevirtual 50, 3) := by decide +kernel
theorem dX5_number_94 : decode cX5_number 94 = .ok (.ireturn, 1) := by decide +kernel
theorem dX5_cordOf_0 : decode cX5_cordOf 0 = .ok (.aload_n 0, 1) := by decide +kernel
theorem dX5_cordOf_1 : decode cX5_cordOf 1 = .ok (.iload_n 1, 1) := by decide +kernel
theorem dX5_cordOf_2 : decode cX5_cordOf 2 = .ok (.invokestatic 82, 3) := by decide +kernel
theorem dX5_cordOf_5 : decode cX5_cordOf 5 = .ok (.ifCond .ne 7, 3) := by decide +kernel
theorem dX5_cordOf_8 : decode cX5_cordOf 8 = .ok (.iconst 1, 1) := by decide +kernel
theorem dX5_cordOf_9 : decode cX5_cordOf 9 = .ok (.goto 18, 3) := by decide +kernel
theorem dX5_cordOf_12 : decode cX5_cordOf 12 = .ok (.iload_n 2, 1) := by decide +kernel
theorem dX5_cordOf_13 : decode cX5_cordOf 13 = .ok (.iconst 0, 1) := by decide +kernel
theorem dX5_cordOf_14 : decode cX5_cordOf 14 = .ok (.bipush 7, 2) := by decide +kernel
theorem dX5_cordOf_16 : decode cX5_cordOf 16 = .ok (.invokestatic 39, 3) := by decide +kernel
theorem dX5_cordOf_19 : decode cX5_cordOf 19 = .ok (.ifCond .ne 7, 3) := by decide +kernel
theorem dX5_cordOf_22 : decode cX5_cordOf 22 = .ok (.iconst 2, 1) := by decide +kernel
theorem dX5_cordOf_23 : decode cX5_cordOf 23 = .ok (.goto 4, 3) := by decide +kernel
theorem dX5_cordOf_26 : decode cX5_cordOf 26 = .ok (.iconst 0, 1) := by decide +kernel
theorem dX5_cordOf_27 : decode cX5_cordOf 27 = .ok (.invokevirtual 86, 3) := by decide +kernel
theorem dX5_cordOf_30 : decode cX5_cordOf 30 = .ok (.ifCond .eq 12, 3) := by decide +kernel
theorem dX5_cordOf_33 : decode cX5_cordOf 33 = .ok (.aload_n 0, 1) := by decide +kernel
theorem dX5_cordOf_34 : decode cX5_cordOf 34 = .ok (.iload_n 1, 1) := by decide +kernel
theorem dX5_cordOf_35 : decode cX5_cordOf 35 = .ok (.iload_n 2, 1) := by decide +kernel
theorem dX5_cordOf_36 : decode cX5_cordOf 36 = .ok (.invokevirtual 133, 3) := by decide +kernel
theorem dX5_cordOf_39 : decode cX5_cordOf 39 = .ok (.goto 4, 3) := by decide +kernel
theorem dX5_cordOf_42 : decode cX5_cordOf 42 = .ok (.iconst 0, 1) := by decide +kernel
theorem dX5_cordOf_43 : decode cX5_cordOf 43 = .ok (.ireturn, 1) := by decide +kernel
theorem dX5_atPlace_0 : decode cX5_atPlace 0 = .ok (.aload_n 0, 1) := by decide +kernel
theorem dX5_atPlace_1 : decode cX5_atPlace 1 = .ok (.getfield 7, 3) := by decide +kernel
theorem dX5_atPlace_4 : decode cX5_atPlace 4 = .ok (.iconst 5, 1) := by decide +kernel
theorem dX5_atPlace_5 : decode cX5_atPlace 5 = .ok (.iaload, 1) := by decide +kernel
theorem dX5_atPlace_6 : decode cX5_atPlace 6 = .ok (.aload_n 0, 1) := by decide +kernel
theorem dX5_atPlace_7 : decode cX5_atPlace 7 = .ok (.iload_n 1, 1) := by decide +kernel
theorem dX5_atPlace_8 : decode cX5_atPlace 8 = .ok (.bipush 19, 2) := by decide +kernel
theorem dX5_atPlace_10 : decode cX5_atPlace 10 = .ok (.iload_n 2, 1) := by decide +kernel
theorem dX5_atPlace_11 : decode cX5_atPlace 11 = .ok (.iadd, 1) := by decide +kernel
theorem dX5_atPlace_12 : decode cX5_atPlace 12 = .ok (.invokevirtual 50, 3) := by decide +kernel
theorem dX5_atPlace_15 : decode cX5_atPlace 15 = .ok (.isub, 1) := by decide +kernel
theorem dX5_atPlace_16 : decode cX5_atPlace 16 = .ok (.aload_n 0, 1) := by decide +kernel
theorem dX5_atPlace_17 : decode cX5_atPlace 17 = .ok (.iload_n 1, 1) := by decide +kernel
theorem dX5_atPlace_18 : decode cX5_atPlace 18 = .ok (.bipush 25, 2) := by decide +kernel
theorem dX5_atPlace_20 : decode cX5_atPlace 20 = .ok (.iload_n 2, 1) := by decide +kernel
theorem dX5_atPlace_21 : decode cX5_atPlace 21 = .ok (.iadd, 1) := by decide +kernel
theorem dX5_atPlace_22 : decode cX5_atPlace 22 = .ok (.invokevirtual 50, 3) := by decide +kernel
theorem dX5_atPlace_25 : decode cX5_atPlace 25 = .ok (.isub, 1) := by decide +kernel
theorem dX5_atPlace_26 : decode cX5_atPlace 26 = .ok (.istore 4, 2) := by decide +kernel
theorem dX5_atPlace_28 : decode cX5_atPlace 28 = .ok (.iload_n 3, 1) := by decide +kernel
theorem dX5_atPlace_29 : decode cX5_atPlace 29 = .ok (.ifCond .ne 15, 3) := by decide +kernel
theorem dX5_atPlace_32 : decode cX5_atPlace 32 = .ok (.aload_n 0, 1) := by decide +kernel
theorem dX5_atPlace_33 : decode cX5_atPlace 33 = .ok (.iload_n 1, 1) := by decide +kernel
theorem dX5_atPlace_34 : decode cX5_atPlace 34 = .ok (.bipush 19, 2) := by decide +kernel
theorem dX5_atPlace_36 : decode cX5_atPlace 36 = .ok (.iload_n 2, 1) := by decide +kernel
theorem dX5_atPlace_37 : decode cX5_atPlace 37 = .ok (.iadd, 1) := by decide +kernel
theorem dX5_atPlace_38 : decode cX5_atPlace 38 = .ok (.invokevirtual 50, 3) := by decide +kernel
theorem dX5_atPlace_41 : decode cX5_atPlace 41 = .ok (.goto 45, 3) := by decide +kernel
theorem dX5_atPlace_44 : decode cX5_atPlace 44 = .ok (.iload_n 3, 1) := by decide +kernel
theorem dX5_atPlace_45 : decode cX5_atPlace 45 = .ok (.iconst 1, 1) := by decide +kernel
theorem dX5_atPlace_46 : decode cX5_atPlace 46 = .ok (.if_icmp .ne 15, 3) := by decide +kernel
theorem dX5_atPlace_49 : decode cX5_atPlace 49 = .ok (.aload_n 0, 1) := by decide +kernel
theorem dX5_atPlace_50 : decode cX5_atPlace 50 = .ok (.iload_n 1, 1) := by decide +kernel
theorem dX5_atPlace_51 : decode cX5_atPlace 51 = .ok (.bipush 25, 2) := by decide +kernel
theorem dX5_atPlace_53 : decode cX5_atPlace 53 = .ok (.iload_n 2, 1) := by decide +kernel
theorem dX5_atPlace_54 : decode cX5_atPlace 54 = .ok (.iadd, 1) := by decide +kernel
theorem dX5_atPlace_55 : decode cX5_atPlace 55 = .ok (.invokevirtual 50, 3) := by decide +kernel
theorem dX5_atPlace_58 : decode cX5_atPlace 58 = .ok (.goto 28, 3) := by decide +kernel
theorem dX5_atPlace_61 : decode cX5_atPlace 61 = .ok (.iload_n 3, 1) := by decide +kernel
theorem dX5_atPlace_62 : decode cX5_atPlace 62 = .ok (.iconst 2, 1) := by decide +kernel
theorem dX5_atPlace_63 : decode cX5_atPlace 63 = .ok (.if_icmp .ne 12, 3) := by decide +kernel
theorem dX5_atPlace_66 : decode cX5_atPlace 66 = .ok (.aload_n 0, 1) := by decide +kernel
theorem dX5_atPlace_67 : decode cX5_atPlace 67 = .ok (.iload_n 1, 1) := by decide +kernel
theorem dX5_atPlace_68 : decode cX5_atPlace 68 = .ok (.iload_n 2, 1) := by decide +kernel
theorem dX5_atPlace_69 : decode cX5_atPlace 69 = .ok (.invokevirtual 53, 3) := by decide +kernel
theorem dX5_atPlace_72 : decode cX5_atPlace 72 = .ok (.goto 14, 3) := by decide +kernel
theorem dX5_atPlace_75 : decode cX5_atPlace 75 = .ok (.iload 4, 2) := by decide +kernel
theorem dX5_atPlace_77 : decode cX5_atPlace 77 = .ok (.ifCond .le 8, 3) := by decide +kernel
theorem dX5_atPlace_80 : decode cX5_atPlace 80 = .ok (.iload 4, 2) := by decide +kernel
theorem dX5_atPlace_82 : decode cX5_atPlace 82 = .ok (.goto 4, 3) := by decide +kernel
theorem dX5_atPlace_85 : decode cX5_atPlace 85 = .ok (.iconst 0, 1) := by decide +kernel
theorem dX5_atPlace_86 : decode cX5_atPlace 86 = .ok (.ireturn, 1) := by decide +kernel
theorem dX5_placeOf_0 : decode cX5_placeOf 0 = .ok (.aload_n 0, 1) := by decide +kernel
theorem dX5_placeOf_1 : decode cX5_placeOf 1 = .ok (.iload_n 1, 1) := by decide +kernel
theorem dX5_placeOf_2 : decode cX5_placeOf 2 = .ok (.invokestatic 82, 3) := by decide +kernel
theorem dX5_placeOf_5 : decode cX5_placeOf 5 = .ok (.ifCond .eq 12, 3) := by decide +kernel
theorem dX5_placeOf_8 : decode cX5_placeOf 8 = .ok (.iload_n 2, 1) := by decide +kernel
theorem dX5_placeOf_9 : decode cX5_placeOf 9 = .ok (.iconst 0, 1) := by decide +kernel
theorem dX5_placeOf_10 : decode cX5_placeOf 10 = .ok (.iconst 5, 1) := by decide +kernel
theorem dX5_placeOf_11 : decode cX5_placeOf 11 = .ok (.invokestatic 39, 3) := by decide +kernel
theorem dX5_placeOf_14 : decode cX5_placeOf 14 = .ok (.ifCond .ne 7, 3) := by decide +kernel
theorem dX5_placeOf_17 : decode cX5_placeOf 17 = .ok (.iconst 1, 1) := by decide +kernel
theorem dX5_placeOf_18 : decode cX5_placeOf 18 = .ok (.goto 17, 3) := by decide +kernel
theorem dX5_placeOf_21 : decode cX5_placeOf 21 = .ok (.iload_n 3, 1) := by decide +kernel
theorem dX5_placeOf_22 : decode cX5_placeOf 22 = .ok (.iconst 0, 1) := by decide +kernel
theorem dX5_placeOf_23 : decode cX5_placeOf 23 = .ok (.iconst 3, 1) := by decide +kernel
theorem dX5_placeOf_24 : decode cX5_placeOf 24 = .ok (.invokestatic 39, 3) := by decide +kernel
theorem dX5_placeOf_27 : decode cX5_placeOf 27 = .ok (.ifCond .ne 7, 3) := by decide +kernel
theorem dX5_placeOf_30 : decode cX5_placeOf 30 = .ok (.iconst 2, 1) := by decide +kernel
theorem dX5_placeOf_31 : decode cX5_placeOf 31 = .ok (.goto 4, 3) := by decide +kernel
theorem dX5_placeOf_34 : decode cX5_placeOf 34 = .ok (.iconst 0, 1) := by decide +kernel
theorem dX5_placeOf_35 : decode cX5_placeOf 35 = .ok (.invokevirtual 86, 3) := by decide +kernel
theorem dX5_placeOf_38 : decode cX5_placeOf 38 = .ok (.ifCond .eq 13, 3) := by decide +kernel
theorem dX5_placeOf_41 : decode cX5_placeOf 41 = .ok (.aload_n 0, 1) := by decide +kernel
theorem dX5_placeOf_42 : decode cX5_placeOf 42 = .ok (.iload_n 1, 1) := by decide +kernel
theorem dX5_placeOf_43 : decode cX5_placeOf 43 = .ok (.iload_n 2, 1) := by decide +kernel
theorem dX5_placeOf_44 : decode cX5_placeOf 44 = .ok (.iload_n 3, 1) := by decide +kernel
theorem dX5_placeOf_45 : decode cX5_placeOf 45 = .ok (.invokevirtual 136, 3) := by decide +kernel
theorem dX5_placeOf_48 : decode cX5_placeOf 48 = .ok (.goto 4, 3) := by decide +kernel
theorem dX5_placeOf_51 : decode cX5_placeOf 51 = .ok (.iconst 0, 1) := by decide +kernel
theorem dX5_placeOf_52 : decode cX5_placeOf 52 = .ok (.ireturn, 1) := by decide +kernel
theorem dX5_part_0 : decode cX5_part 0 = .ok (.aload_n 0, 1) := by decide +kernel
theorem dX5_part_1 : decode cX5_part 1 = .ok (.iload_n 1, 1) := by decide +kernel
theorem dX5_part_2 : decode cX5_part 2 = .ok (.invokestatic 82, 3) := by decide +kernel
theorem dX5_part_5 : decode cX5_part 5 = .ok (.ifCond .ne 7, 3) := by decide +kernel
theorem dX5_part_8 : decode cX5_part 8 = .ok (.iconst 1, 1) := by decide +kernel
theorem dX5_part_9 : decode cX5_part 9 = .ok (.goto 12, 3) := by decide +kernel
theorem dX5_part_12 : decode cX5_part 12 = .ok (.iload_n 2, 1) := by decide +kernel
theorem dX5_part_13 : decode cX5_part 13 = .ok (.ifCond .ge 7, 3) := by decide +kernel
theorem dX5_part_16 : decode cX5_part 16 = .ok (.iconst 2, 1) := by decide +kernel
theorem dX5_part_17 : decode cX5_part 17 = .ok (.goto 4, 3) := by decide +kernel
theorem dX5_part_20 : decode cX5_part 20 = .ok (.iconst 0, 1) := by decide +kernel
theorem dX5_part_21 : decode cX5_part 21 = .ok (.invokevirtual 86, 3) := by decide +kernel
theorem dX5_part_24 : decode cX5_part 24 = .ok (.ifCond .ne 5, 3) := by decide +kernel
theorem dX5_part_27 : decode cX5_part 27 = .ok (.iconst 0, 1) := by decide +kernel
theorem dX5_part_28 : decode cX5_part 28 = .ok (.ireturn, 1) := by decide +kernel
theorem dX5_part_29 : decode cX5_part 29 = .ok (.iload_n 2, 1) := by decide +kernel
theorem dX5_part_30 : decode cX5_part 30 = .ok (.aload_n 0, 1) := by decide +kernel
theorem dX5_part_31 : decode cX5_part 31 = .ok (.iload_n 1, 1) := by decide +kernel
theorem dX5_part_32 : decode cX5_part 32 = .ok (.iconst 1, 1) := by decide +kernel
theorem dX5_part_33 : decode cX5_part 33 = .ok (.invokevirtual 50, 3) := by decide +kernel
theorem dX5_part_36 : decode cX5_part 36 = .ok (.if_icmp .ge 14, 3) := by decide +kernel
theorem dX5_part_39 : decode cX5_part 39 = .ok (.aload_n 0, 1) := by decide +kernel
theorem dX5_part_40 : decode cX5_part 40 = .ok (.iload_n 1, 1) := by decide +kernel
theorem dX5_part_41 : decode cX5_part 41 = .ok (.iconst 3, 1) := by decide +kernel
theorem dX5_part_42 : decode cX5_part 42 = .ok (.iload_n 2, 1) := by decide +kernel
theorem dX5_part_43 : decode cX5_part 43 = .ok (.iadd, 1) := by decide +kernel
theorem dX5_part_44 : decode cX5_part 44 = .ok (.invokevirtual 50, 3) := by decide +kernel
theorem dX5_part_47 : decode cX5_part 47 = .ok (.goto 4, 3) := by decide +kernel
theorem dX5_part_50 : decode cX5_part 50 = .ok (.iconst (-1), 1) := by decide +kernel
theorem dX5_part_51 : decode cX5_part 51 = .ok (.ireturn, 1) := by decide +kernel
theorem dX5_sumOf_0 : decode cX5_sumOf 0 = .ok (.iconst 0, 1) := by decide +kernel
theorem dX5_sumOf_1 : decode cX5_sumOf 1 = .ok (.istore_n 2, 1) := by decide +kernel
theorem dX5_sumOf_2 : decode cX5_sumOf 2 = .ok (.iconst 0, 1) := by decide +kernel
theorem dX5_sumOf_3 : decode cX5_sumOf 3 = .ok (.istore_n 3, 1) := by decide +kernel
theorem dX5_sumOf_4 : decode cX5_sumOf 4 = .ok (.iload_n 3, 1) := by decide +kernel
theorem dX5_sumOf_5 : decode cX5_sumOf 5 = .ok (.bipush 7, 2) := by decide +kernel
theorem dX5_sumOf_7 : decode cX5_sumOf 7 = .ok (.if_icmp .ge 50, 3) := by decide +kernel
theorem dX5_sumOf_10 : decode cX5_sumOf 10 = .ok (.iload_n 2, 1) := by decide +kernel
theorem dX5_sumOf_11 : decode cX5_sumOf 11 = .ok (.iload_n 1, 1) := by decide +kernel
theorem dX5_sumOf_12 : decode cX5_sumOf 12 = .ok (.ifCond .ne 11, 3) := by decide +kernel
theorem dX5_sumOf_15 : decode cX5_sumOf 15 = .ok (.aload_n 0, 1) := by decide +kernel
theorem dX5_sumOf_16 : decode cX5_sumOf 16 = .ok (.iload_n 3, 1) := by decide +kernel
theorem dX5_sumOf_17 : decode cX5_sumOf 17 = .ok (.invokevirtual 60, 3) := by decide +kernel
theorem dX5_sumOf_20 : decode cX5_sumOf 20 = .ok (.goto 29, 3) := by decide +kernel
theorem dX5_sumOf_23 : decode cX5_sumOf 23 = .ok (.iload_n 1, 1) := by decide +kernel
theorem dX5_sumOf_24 : decode cX5_sumOf 24 = .ok (.iconst 1, 1) := by decide +kernel
theorem dX5_sumOf_25 : decode cX5_sumOf 25 = .ok (.if_icmp .ne 11, 3) := by decide +kernel
theorem dX5_sumOf_28 : decode cX5_sumOf 28 = .ok (.aload_n 0, 1) := by decide +kernel
theorem dX5_sumOf_29 : decode cX5_sumOf 29 = .ok (.iload_n 3, 1) := by decide +kernel
theorem dX5_sumOf_30 : decode cX5_sumOf 30 = .ok (.invokevirtual 63, 3) := by decide +kernel
theorem dX5_sumOf_33 : decode cX5_sumOf 33 = .ok (.goto 16, 3) := by decide +kernel
theorem dX5_sumOf_36 : decode cX5_sumOf 36 = .ok (.aload_n 0, 1) := by decide +kernel
theorem dX5_sumOf_37 : decode cX5_sumOf 37 = .ok (.iload_n 3, 1) := by decide +kernel
theorem dX5_sumOf_38 : decode cX5_sumOf 38 = .ok (.invokevirtual 79, 3) := by decide +kernel
theorem dX5_sumOf_41 : decode cX5_sumOf 41 = .ok (.ifCond .le 7, 3) := by decide +kernel
theorem dX5_sumOf_44 : decode cX5_sumOf 44 = .ok (.iconst 1, 1) := by decide +kernel
theorem dX5_sumOf_45 : decode cX5_sumOf 45 = .ok (.goto 4, 3) := by decide +kernel
theorem dX5_sumOf_48 : decode cX5_sumOf 48 = .ok (.iconst 0, 1) := by decide +kernel
theorem dX5_sumOf_49 : decode cX5_sumOf 49 = .ok (.iadd, 1) := by decide +kernel
theorem dX5_sumOf_50 : decode cX5_sumOf 50 = .ok (.istore_n 2, 1) := by decide +kernel
theorem dX5_sumOf_51 : decode cX5_sumOf 51 = .ok (.iinc 3 1, 3) := by decide +kernel
theorem dX5_sumOf_54 : decode cX5_sumOf 54 = .ok (.goto (-50), 3) := by decide +kernel
theorem dX5_sumOf_57 : decode cX5_sumOf 57 = .ok (.iload_n 2, 1) := by decide +kernel
theorem dX5_sumOf_58 : decode cX5_sumOf 58 = .ok (.ireturn, 1) := by decide +kernel
theorem dX5_counted_0 : decode cX5_counted 0 = .ok (.iload_n 1, 1) := by decide +kernel
theorem dX5_counted_1 : decode cX5_counted 1 = .ok (.tableswitch 73 0 9 #[55, 55, 73, 73, 73, 73, 73, 55, 61, 68], 55) := by decide +kernel
theorem dX5_counted_56 : decode cX5_counted 56 = .ok (.aload_n 0, 1) := by decide +kernel
theorem dX5_counted_57 : decode cX5_counted 57 = .ok (.iload_n 1, 1) := by decide +kernel
theorem dX5_counted_58 : decode cX5_counted 58 = .ok (.invokevirtual 140, 3) := by decide +kernel
theorem dX5_counted_61 : decode cX5_counted 61 = .ok (.ireturn, 1) := by decide +kernel
theorem dX5_counted_62 : decode cX5_counted 62 = .ok (.aload_n 0, 1) := by decide +kernel
theorem dX5_counted_63 : decode cX5_counted 63 = .ok (.getfield 7, 3) := by decide +kernel
theorem dX5_counted_66 : decode cX5_counted 66 = .ok (.iconst 5, 1) := by decide +kernel
theorem dX5_counted_67 : decode cX5_counted 67 = .ok (.iaload, 1) := by decide +kernel
theorem dX5_counted_68 : decode cX5_counted 68 = .ok (.ireturn, 1) := by decide +kernel
theorem dX5_counted_69 : decode cX5_counted 69 = .ok (.aload_n 0, 1) := by decide +kernel
theorem dX5_counted_70 : decode cX5_counted 70 = .ok (.getfield 47, 3) := by decide +kernel
theorem dX5_counted_73 : decode cX5_counted 73 = .ok (.ireturn, 1) := by decide +kernel
theorem dX5_counted_74 : decode cX5_counted 74 = .ok (.aload_n 0, 1) := by decide +kernel
theorem dX5_counted_75 : decode cX5_counted 75 = .ok (.getfield 7, 3) := by decide +kernel
theorem dX5_counted_78 : decode cX5_counted 78 = .ok (.iload_n 1, 1) := by decide +kernel
theorem dX5_counted_79 : decode cX5_counted 79 = .ok (.iconst 2, 1) := by decide +kernel
theorem dX5_counted_80 : decode cX5_counted 80 = .ok (.isub, 1) := by decide +kernel
theorem dX5_counted_81 : decode cX5_counted 81 = .ok (.iaload, 1) := by decide +kernel
theorem dX5_counted_82 : decode cX5_counted 82 = .ok (.ireturn, 1) := by decide +kernel
theorem dX5_count_0 : decode cX5_count 0 = .ok (.aload_n 0, 1) := by decide +kernel
theorem dX5_count_1 : decode cX5_count 1 = .ok (.iload_n 1, 1) := by decide +kernel
theorem dX5_count_2 : decode cX5_count 2 = .ok (.iconst 0, 1) := by decide +kernel
theorem dX5_count_3 : decode cX5_count 3 = .ok (.bipush 9, 2) := by decide +kernel
theorem dX5_count_5 : decode cX5_count 5 = .ok (.invokestatic 39, 3) := by decide +kernel
theorem dX5_count_8 : decode cX5_count 8 = .ok (.ifCond .eq 7, 3) := by decide +kernel
theorem dX5_count_11 : decode cX5_count 11 = .ok (.iconst 0, 1) := by decide +kernel
theorem dX5_count_12 : decode cX5_count 12 = .ok (.goto 4, 3) := by decide +kernel
theorem dX5_count_15 : decode cX5_count 15 = .ok (.iconst 1, 1) := by decide +kernel
theorem dX5_count_16 : decode cX5_count 16 = .ok (.invokevirtual 86, 3) := by decide +kernel
theorem dX5_count_19 : decode cX5_count 19 = .ok (.ifCond .eq 11, 3) := by decide +kernel
theorem dX5_count_22 : decode cX5_count 22 = .ok (.aload_n 0, 1) := by decide +kernel
theorem dX5_count_23 : decode cX5_count 23 = .ok (.iload_n 1, 1) := by decide +kernel
theorem dX5_count_24 : decode cX5_count 24 = .ok (.invokevirtual 143, 3) := by decide +kernel
theorem dX5_count_27 : decode cX5_count 27 = .ok (.goto 4, 3) := by decide +kernel
theorem dX5_count_30 : decode cX5_count 30 = .ok (.iconst 0, 1) := by decide +kernel
theorem dX5_count_31 : decode cX5_count 31 = .ok (.ireturn, 1) := by decide +kernel
theorem dX5_ofHue_0 : decode cX5_ofHue 0 = .ok (.iconst 0, 1) := by decide +kernel
theorem dX5_ofHue_1 : decode cX5_ofHue 1 = .ok (.istore_n 2, 1) := by decide +kernel
theorem dX5_ofHue_2 : decode cX5_ofHue 2 = .ok (.iconst 0, 1) := by decide +kernel
theorem dX5_ofHue_3 : decode cX5_ofHue 3 = .ok (.istore_n 3, 1) := by decide +kernel
theorem dX5_ofHue_4 : decode cX5_ofHue 4 = .ok (.iload_n 3, 1) := by decide +kernel
theorem dX5_ofHue_5 : decode cX5_ofHue 5 = .ok (.bipush 7, 2) := by decide +kernel
theorem dX5_ofHue_7 : decode cX5_ofHue 7 = .ok (.if_icmp .ge 31, 3) := by decide +kernel
theorem dX5_ofHue_10 : decode cX5_ofHue 10 = .ok (.iload_n 2, 1) := by decide +kernel
theorem dX5_ofHue_11 : decode cX5_ofHue 11 = .ok (.aload_n 0, 1) := by decide +kernel
theorem dX5_ofHue_12 : decode cX5_ofHue 12 = .ok (.iload_n 3, 1) := by decide +kernel
theorem dX5_ofHue_13 : decode cX5_ofHue 13 = .ok (.iconst 0, 1) := by decide +kernel
theorem dX5_ofHue_14 : decode cX5_ofHue 14 = .ok (.invokevirtual 50, 3) := by decide +kernel
theorem dX5_ofHue_17 : decode cX5_ofHue 17 = .ok (.iload_n 1, 1) := by decide +kernel
theorem dX5_ofHue_18 : decode cX5_ofHue 18 = .ok (.if_icmp .ne 11, 3) := by decide +kernel
theorem dX5_ofHue_21 : decode cX5_ofHue 21 = .ok (.aload_n 0, 1) := by decide +kernel
theorem dX5_ofHue_22 : decode cX5_ofHue 22 = .ok (.iload_n 3, 1) := by decide +kernel
theorem dX5_ofHue_23 : decode cX5_ofHue 23 = .ok (.invokevirtual 60, 3) := by decide +kernel
theorem dX5_ofHue_26 : decode cX5_ofHue 26 = .ok (.goto 4, 3) := by decide +kernel
theorem dX5_ofHue_29 : decode cX5_ofHue 29 = .ok (.iconst 0, 1) := by decide +kernel
theorem dX5_ofHue_30 : decode cX5_ofHue 30 = .ok (.iadd, 1) := by decide +kernel
theorem dX5_ofHue_31 : decode cX5_ofHue 31 = .ok (.istore_n 2, 1) := by decide +kernel
theorem dX5_ofHue_32 : decode cX5_ofHue 32 = .ok (.iinc 3 1, 3) := by decide +kernel
theorem dX5_ofHue_35 : decode cX5_ofHue 35 = .ok (.goto (-31), 3) := by decide +kernel
theorem dX5_ofHue_38 : decode cX5_ofHue 38 = .ok (.iload_n 2, 1) := by decide +kernel
theorem dX5_ofHue_39 : decode cX5_ofHue 39 = .ok (.ireturn, 1) := by decide +kernel
theorem dX5_byHue_0 : decode cX5_byHue 0 = .ok (.aload_n 0, 1) := by decide +kernel
theorem dX5_byHue_1 : decode cX5_byHue 1 = .ok (.iload_n 1, 1) := by decide +kernel
theorem dX5_byHue_2 : decode cX5_byHue 2 = .ok (.iconst 0, 1) := by decide +kernel
theorem dX5_byHue_3 : decode cX5_byHue 3 = .ok (.iconst 5, 1) := by decide +kernel
theorem dX5_byHue_4 : decode cX5_byHue 4 = .ok (.invokestatic 39, 3) := by decide +kernel
theorem dX5_byHue_7 : decode cX5_byHue 7 = .ok (.ifCond .eq 7, 3) := by decide +kernel
theorem dX5_byHue_10 : decode cX5_byHue 10 = .ok (.iconst 0, 1) := by decide +kernel
theorem dX5_byHue_11 : decode cX5_byHue 11 = .ok (.goto 4, 3) := by decide +kernel
theorem dX5_byHue_14 : decode cX5_byHue 14 = .ok (.iconst 1, 1) := by decide +kernel
theorem dX5_byHue_15 : decode cX5_byHue 15 = .ok (.invokevirtual 86, 3) := by decide +kernel
theorem dX5_byHue_18 : decode cX5_byHue 18 = .ok (.ifCond .eq 11, 3) := by decide +kernel
theorem dX5_byHue_21 : decode cX5_byHue 21 = .ok (.aload_n 0, 1) := by decide +kernel
theorem dX5_byHue_22 : decode cX5_byHue 22 = .ok (.iload_n 1, 1) := by decide +kernel
theorem dX5_byHue_23 : decode cX5_byHue 23 = .ok (.invokevirtual 146, 3) := by decide +kernel
theorem dX5_byHue_26 : decode cX5_byHue 26 = .ok (.goto 4, 3) := by decide +kernel
theorem dX5_byHue_29 : decode cX5_byHue 29 = .ok (.iconst 0, 1) := by decide +kernel
theorem dX5_byHue_30 : decode cX5_byHue 30 = .ok (.ireturn, 1) := by decide +kernel
theorem dX5_whyNot_0 : decode cX5_whyNot 0 = .ok (.aload_n 0, 1) := by decide +kernel
theorem dX5_whyNot_1 : decode cX5_whyNot 1 = .ok (.iload_n 1, 1) := by decide +kernel
theorem dX5_whyNot_2 : decode cX5_whyNot 2 = .ok (.invokestatic 82, 3) := by decide +kernel
theorem dX5_whyNot_5 : decode cX5_whyNot 5 = .ok (.ifCond .ne 7, 3) := by decide +kernel
theorem dX5_whyNot_8 : decode cX5_whyNot 8 = .ok (.iconst 1, 1) := by decide +kernel
theorem dX5_whyNot_9 : decode cX5_whyNot 9 = .ok (.goto 18, 3) := by decide +kernel
theorem dX5_whyNot_12 : decode cX5_whyNot 12 = .ok (.iload_n 2, 1) := by decide +kernel
theorem dX5_whyNot_13 : decode cX5_whyNot 13 = .ok (.iconst 1, 1) := by decide +kernel
theorem dX5_whyNot_14 : decode cX5_whyNot 14 = .ok (.ldc 66, 2) := by decide +kernel
theorem dX5_whyNot_16 : decode cX5_whyNot 16 = .ok (.invokestatic 39, 3) := by decide +kernel
theorem dX5_whyNot_19 : decode cX5_whyNot 19 = .ok (.ifCond .ne 7, 3) := by decide +kernel
theorem dX5_whyNot_22 : decode cX5_whyNot 22 = .ok (.iconst 2, 1) := by decide +kernel
theorem dX5_whyNot_23 : decode cX5_whyNot 23 = .ok (.goto 4, 3) := by decide +kernel
theorem dX5_whyNot_26 : decode cX5_whyNot 26 = .ok (.iconst 0, 1) := by decide +kernel
theorem dX5_whyNot_27 : decode cX5_whyNot 27 = .ok (.invokevirtual 86, 3) := by decide +kernel
theorem dX5_whyNot_30 : decode cX5_whyNot 30 = .ok (.ifCond .eq 12, 3) := by decide +kernel
theorem dX5_whyNot_33 : decode cX5_whyNot 33 = .ok (.aload_n 0, 1) := by decide +kernel
theorem dX5_whyNot_34 : decode cX5_whyNot 34 = .ok (.iload_n 1, 1) := by decide +kernel
theorem dX5_whyNot_35 : decode cX5_whyNot 35 = .ok (.iload_n 2, 1) := by decide +kernel
theorem dX5_whyNot_36 : decode cX5_whyNot 36 = .ok (.invokevirtual 70, 3) := by decide +kernel
theorem dX5_whyNot_39 : decode cX5_whyNot 39 = .ok (.goto 4, 3) := by decide +kernel
theorem dX5_whyNot_42 : decode cX5_whyNot 42 = .ok (.iconst 0, 1) := by decide +kernel
theorem dX5_whyNot_43 : decode cX5_whyNot 43 = .ok (.ireturn, 1) := by decide +kernel
theorem dX5_times_0 : decode cX5_times 0 = .ok (.aload_n 0, 1) := by decide +kernel
theorem dX5_times_1 : decode cX5_times 1 = .ok (.invokevirtual 149, 3) := by decide +kernel
theorem dX5_times_4 : decode cX5_times 4 = .ok (.iconst 0, 1) := by decide +kernel
theorem dX5_times_5 : decode cX5_times 5 = .ok (.istore_n 3, 1) := by decide +kernel
theorem dX5_times_6 : decode cX5_times 6 = .ok (.aload_n 0, 1) := by decide +kernel
theorem dX5_times_7 : decode cX5_times 7 = .ok (.iload_n 1, 1) := by decide +kernel
theorem dX5_times_8 : decode cX5_times 8 = .ok (.iload_n 2, 1) := by decide +kernel
theorem dX5_times_9 : decode cX5_times 9 = .ok (.invokevirtual 76, 3) := by decide +kernel
theorem dX5_times_12 : decode cX5_times 12 = .ok (.bipush 10, 2) := by decide +kernel
theorem dX5_times_14 : decode cX5_times 14 = .ok (.if_icmp .lt 9, 3) := by decide +kernel
theorem dX5_times_17 : decode cX5_times 17 = .ok (.iinc 3 1, 3) := by decide +kernel
theorem dX5_times_20 : decode cX5_times 20 = .ok (.goto (-14), 3) := by decide +kernel
theorem dX5_times_23 : decode cX5_times 23 = .ok (.aload_n 0, 1) := by decide +kernel
theorem dX5_times_24 : decode cX5_times 24 = .ok (.invokevirtual 152, 3) := by decide +kernel
theorem dX5_times_27 : decode cX5_times 27 = .ok (.iload_n 3, 1) := by decide +kernel
theorem dX5_times_28 : decode cX5_times 28 = .ok (.ireturn, 1) := by decide +kernel
theorem dX5_howOften_0 : decode cX5_howOften 0 = .ok (.aload_n 0, 1) := by decide +kernel
theorem dX5_howOften_1 : decode cX5_howOften 1 = .ok (.iload_n 1, 1) := by decide +kernel
theorem dX5_howOften_2 : decode cX5_howOften 2 = .ok (.invokestatic 82, 3) := by decide +kernel
theorem dX5_howOften_5 : decode cX5_howOften 5 = .ok (.ifCond .ne 7, 3) := by decide +kernel
theorem dX5_howOften_8 : decode cX5_howOften 8 = .ok (.iconst 1, 1) := by decide +kernel
theorem dX5_howOften_9 : decode cX5_howOften 9 = .ok (.goto 18, 3) := by decide +kernel
theorem dX5_howOften_12 : decode cX5_howOften 12 = .ok (.iload_n 2, 1) := by decide +kernel
theorem dX5_howOften_13 : decode cX5_howOften 13 = .ok (.iconst 1, 1) := by decide +kernel
theorem dX5_howOften_14 : decode cX5_howOften 14 = .ok (.ldc 66, 2) := by decide +kernel
theorem dX5_howOften_16 : decode cX5_howOften 16 = .ok (.invokestatic 39, 3) := by decide +kernel
theorem dX5_howOften_19 : decode cX5_howOften 19 = .ok (.ifCond .ne 7, 3) := by decide +kernel
theorem dX5_howOften_22 : decode cX5_howOften 22 = .ok (.iconst 2, 1) := by decide +kernel
theorem dX5_howOften_23 : decode cX5_howOften 23 = .ok (.goto 4, 3) := by decide +kernel
theorem dX5_howOften_26 : decode cX5_howOften 26 = .ok (.iconst 0, 1) := by decide +kernel
theorem dX5_howOften_27 : decode cX5_howOften 27 = .ok (.invokevirtual 86, 3) := by decide +kernel
theorem dX5_howOften_30 : decode cX5_howOften 30 = .ok (.ifCond .eq 12, 3) := by decide +kernel
theorem dX5_howOften_33 : decode cX5_howOften 33 = .ok (.aload_n 0, 1) := by decide +kernel
theorem dX5_howOften_34 : decode cX5_howOften 34 = .ok (.iload_n 1, 1) := by decide +kernel
theorem dX5_howOften_35 : decode cX5_howOften 35 = .ok (.iload_n 2, 1) := by decide +kernel
theorem dX5_howOften_36 : decode cX5_howOften 36 = .ok (.invokevirtual 155, 3) := by decide +kernel
theorem dX5_howOften_39 : decode cX5_howOften 39 = .ok (.goto 4, 3) := by decide +kernel
theorem dX5_howOften_42 : decode cX5_howOften 42 = .ok (.iconst 0, 1) := by decide +kernel
theorem dX5_howOften_43 : decode cX5_howOften 43 = .ok (.ireturn, 1) := by decide +kernel
theorem dX5_many_0 : decode cX5_many 0 = .ok (.iconst 0, 1) := by decide +kernel
theorem dX5_many_1 : decode cX5_many 1 = .ok (.istore_n 1, 1) := by decide +kernel
theorem dX5_many_2 : decode cX5_many 2 = .ok (.iconst 0, 1) := by decide +kernel
theorem dX5_many_3 : decode cX5_many 3 = .ok (.istore_n 2, 1) := by decide +kernel
theorem dX5_many_4 : decode cX5_many 4 = .ok (.iload_n 2, 1) := by decide +kernel
theorem dX5_many_5 : decode cX5_many 5 = .ok (.bipush 7, 2) := by decide +kernel
theorem dX5_many_7 : decode cX5_many 7 = .ok (.if_icmp .ge 17, 3) := by decide +kernel
theorem dX5_many_10 : decode cX5_many 10 = .ok (.iload_n 1, 1) := by decide +kernel
theorem dX5_many_11 : decode cX5_many 11 = .ok (.iload_n 0, 1) := by decide +kernel
theorem dX5_many_12 : decode cX5_many 12 = .ok (.iload_n 2, 1) := by decide +kernel
theorem dX5_many_13 : decode cX5_many 13 = .ok (.ishr, 1) := by decide +kernel
theorem dX5_many_14 : decode cX5_many 14 = .ok (.iconst 1, 1) := by decide +kernel
theorem dX5_many_15 : decode cX5_many 15 = .ok (.iand, 1) := by decide +kernel
theorem dX5_many_16 : decode cX5_many 16 = .ok (.iadd, 1) := by decide +kernel
theorem dX5_many_17 : decode cX5_many 17 = .ok (.istore_n 1, 1) := by decide +kernel
theorem dX5_many_18 : decode cX5_many 18 = .ok (.iinc 2 1, 3) := by decide +kernel
theorem dX5_many_21 : decode cX5_many 21 = .ok (.goto (-17), 3) := by decide +kernel
theorem dX5_many_24 : decode cX5_many 24 = .ok (.iload_n 1, 1) := by decide +kernel
theorem dX5_many_25 : decode cX5_many 25 = .ok (.ireturn, 1) := by decide +kernel
theorem dX5_toldBy_0 : decode cX5_toldBy 0 = .ok (.iconst 0, 1) := by decide +kernel
theorem dX5_toldBy_1 : decode cX5_toldBy 1 = .ok (.istore_n 2, 1) := by decide +kernel
theorem dX5_toldBy_2 : decode cX5_toldBy 2 = .ok (.iconst 0, 1) := by decide +kernel
theorem dX5_toldBy_3 : decode cX5_toldBy 3 = .ok (.istore_n 3, 1) := by decide +kernel
theorem dX5_toldBy_4 : decode cX5_toldBy 4 = .ok (.iload_n 3, 1) := by decide +kernel
theorem dX5_toldBy_5 : decode cX5_toldBy 5 = .ok (.bipush 7, 2) := by decide +kernel
theorem dX5_toldBy_7 : decode cX5_toldBy 7 = .ok (.if_icmp .ge 23, 3) := by decide +kernel
theorem dX5_toldBy_10 : decode cX5_toldBy 10 = .ok (.iload_n 2, 1) := by decide +kernel
theorem dX5_toldBy_11 : decode cX5_toldBy 11 = .ok (.iload_n 1, 1) := by decide +kernel
theorem dX5_toldBy_12 : decode cX5_toldBy 12 = .ok (.iload_n 3, 1) := by decide +kernel
theorem dX5_toldBy_13 : decode cX5_toldBy 13 = .ok (.ishr, 1) := by decide +kernel
theorem dX5_toldBy_14 : decode cX5_toldBy 14 = .ok (.iconst 1, 1) := by decide +kernel
theorem dX5_toldBy_15 : decode cX5_toldBy 15 = .ok (.iand, 1) := by decide +kernel
theorem dX5_toldBy_16 : decode cX5_toldBy 16 = .ok (.aload_n 0, 1) := by decide +kernel
theorem dX5_toldBy_17 : decode cX5_toldBy 17 = .ok (.iload_n 3, 1) := by decide +kernel
theorem dX5_toldBy_18 : decode cX5_toldBy 18 = .ok (.invokevirtual 60, 3) := by decide +kernel
theorem dX5_toldBy_21 : decode cX5_toldBy 21 = .ok (.imul, 1) := by decide +kernel
theorem dX5_toldBy_22 : decode cX5_toldBy 22 = .ok (.iadd, 1) := by decide +kernel
theorem dX5_toldBy_23 : decode cX5_toldBy 23 = .ok (.istore_n 2, 1) := by decide +kernel
theorem dX5_toldBy_24 : decode cX5_toldBy 24 = .ok (.iinc 3 1, 3) := by decide +kernel
theorem dX5_toldBy_27 : decode cX5_toldBy 27 = .ok (.goto (-23), 3) := by decide +kernel
theorem dX5_toldBy_30 : decode cX5_toldBy 30 = .ok (.iload_n 2, 1) := by decide +kernel
theorem dX5_toldBy_31 : decode cX5_toldBy 31 = .ok (.ireturn, 1) := by decide +kernel
theorem dX5_setFor_0 : decode cX5_setFor 0 = .ok (.iconst (-1), 1) := by decide +kernel
theorem dX5_setFor_1 : decode cX5_setFor 1 = .ok (.istore_n 2, 1) := by decide +kernel
theorem dX5_setFor_2 : decode cX5_setFor 2 = .ok (.iconst 1, 1) := by decide +kernel
theorem dX5_setFor_3 : decode cX5_setFor 3 = .ok (.istore_n 3, 1) := by decide +kernel
theorem dX5_setFor_4 : decode cX5_setFor 4 = .ok (.iload_n 3, 1) := by decide +kernel
theorem dX5_setFor_5 : decode cX5_setFor 5 = .ok (.sipush 128, 3) := by decide +kernel
theorem dX5_setFor_8 : decode cX5_setFor 8 = .ok (.if_icmp .ge 40, 3) := by decide +kernel
theorem dX5_setFor_11 : decode cX5_setFor 11 = .ok (.aload_n 0, 1) := by decide +kernel
theorem dX5_setFor_12 : decode cX5_setFor 12 = .ok (.iload_n 3, 1) := by decide +kernel
theorem dX5_setFor_13 : decode cX5_setFor 13 = .ok (.invokevirtual 158, 3) := by decide +kernel
theorem dX5_setFor_16 : decode cX5_setFor 16 = .ok (.iload_n 1, 1) := by decide +kernel
theorem dX5_setFor_17 : decode cX5_setFor 17 = .ok (.if_icmp .ne 23, 3) := by decide +kernel
theorem dX5_setFor_20 : decode cX5_setFor 20 = .ok (.iload_n 2, 1) := by decide +kernel
theorem dX5_setFor_21 : decode cX5_setFor 21 = .ok (.iconst (-1), 1) := by decide +kernel
theorem dX5_setFor_22 : decode cX5_setFor 22 = .ok (.if_icmp .eq 14, 3) := by decide +kernel
theorem dX5_setFor_25 : decode cX5_setFor 25 = .ok (.iload_n 3, 1) := by decide +kernel
theorem dX5_setFor_26 : decode cX5_setFor 26 = .ok (.invokestatic 161, 3) := by decide +kernel
theorem dX5_setFor_29 : decode cX5_setFor 29 = .ok (.iload_n 2, 1) := by decide +kernel
theorem dX5_setFor_30 : decode cX5_setFor 30 = .ok (.invokestatic 161, 3) := by decide +kernel
theorem dX5_setFor_33 : decode cX5_setFor 33 = .ok (.if_icmp .ge 7, 3) := by decide +kernel
theorem dX5_setFor_36 : decode cX5_setFor 36 = .ok (.iload_n 3, 1) := by decide +kernel
theorem dX5_setFor_37 : decode cX5_setFor 37 = .ok (.goto 4, 3) := by decide +kernel
theorem dX5_setFor_40 : decode cX5_setFor 40 = .ok (.iload_n 2, 1) := by decide +kernel
theorem dX5_setFor_41 : decode cX5_setFor 41 = .ok (.istore_n 2, 1) := by decide +kernel
theorem dX5_setFor_42 : decode cX5_setFor 42 = .ok (.iinc 3 1, 3) := by decide +kernel
theorem dX5_setFor_45 : decode cX5_setFor 45 = .ok (.goto (-41), 3) := by decide +kernel
theorem dX5_setFor_48 : decode cX5_setFor 48 = .ok (.iload_n 2, 1) := by decide +kernel
theorem dX5_setFor_49 : decode cX5_setFor 49 = .ok (.ireturn, 1) := by decide +kernel
theorem dX5_cordsFor_0 : decode cX5_cordsFor 0 = .ok (.aload_n 0, 1) := by decide +kernel
theorem dX5_cordsFor_1 : decode cX5_cordsFor 1 = .ok (.iload_n 1, 1) := by decide +kernel
theorem dX5_cordsFor_2 : decode cX5_cordsFor 2 = .ok (.iconst 1, 1) := by decide +kernel
theorem dX5_cordsFor_3 : decode cX5_cordsFor 3 = .ok (.ldc 164, 2) := by decide +kernel
theorem dX5_cordsFor_5 : decode cX5_cordsFor 5 = .ok (.invokestatic 39, 3) := by decide +kernel
theorem dX5_cordsFor_8 : decode cX5_cordsFor 8 = .ok (.ifCond .eq 16, 3) := by decide +kernel
theorem dX5_cordsFor_11 : decode cX5_cordsFor 11 = .ok (.iload_n 2, 1) := by decide +kernel
theorem dX5_cordsFor_12 : decode cX5_cordsFor 12 = .ok (.iconst 0, 1) := by decide +kernel
theorem dX5_cordsFor_13 : decode cX5_cordsFor 13 = .ok (.iconst 1, 1) := by decide +kernel
theorem dX5_cordsFor_14 : decode cX5_cordsFor 14 = .ok (.invokestatic 39, 3) := by decide +kernel
theorem dX5_cordsFor_17 : decode cX5_cordsFor 17 = .ok (.ifCond .eq 7, 3) := by decide +kernel
theorem dX5_cordsFor_20 : decode cX5_cordsFor 20 = .ok (.iconst 0, 1) := by decide +kernel
theorem dX5_cordsFor_21 : decode cX5_cordsFor 21 = .ok (.goto 4, 3) := by decide +kernel
theorem dX5_cordsFor_24 : decode cX5_cordsFor 24 = .ok (.iconst 1, 1) := by decide +kernel
theorem dX5_cordsFor_25 : decode cX5_cordsFor 25 = .ok (.invokevirtual 86, 3) := by decide +kernel
theorem dX5_cordsFor_28 : decode cX5_cordsFor 28 = .ok (.ifCond .eq 11, 3) := by decide +kernel
theorem dX5_cordsFor_31 : decode cX5_cordsFor 31 = .ok (.aload_n 0, 1) := by decide +kernel
theorem dX5_cordsFor_32 : decode cX5_cordsFor 32 = .ok (.iload_n 1, 1) := by decide +kernel
theorem dX5_cordsFor_33 : decode cX5_cordsFor 33 = .ok (.invokevirtual 165, 3) := by decide +kernel
theorem dX5_cordsFor_36 : decode cX5_cordsFor 36 = .ok (.goto 4, 3) := by decide +kernel
theorem dX5_cordsFor_39 : decode cX5_cordsFor 39 = .ok (.iconst 0, 1) := by decide +kernel
theorem dX5_cordsFor_40 : decode cX5_cordsFor 40 = .ok (.ireturn, 1) := by decide +kernel
theorem dX5_fullestOne_0 : decode cX5_fullestOne 0 = .ok (.iconst 0, 1) := by decide +kernel
theorem dX5_fullestOne_1 : decode cX5_fullestOne 1 = .ok (.istore_n 1, 1) := by decide +kernel
theorem dX5_fullestOne_2 : decode cX5_fullestOne 2 = .ok (.iconst 1, 1) := by decide +kernel
theorem dX5_fullestOne_3 : decode cX5_fullestOne 3 = .ok (.istore_n 2, 1) := by decide +kernel
theorem dX5_fullestOne_4 : decode cX5_fullestOne 4 = .ok (.iload_n 2, 1) := by decide +kernel
theorem dX5_fullestOne_5 : decode cX5_fullestOne 5 = .ok (.bipush 7, 2) := by decide +kernel
theorem dX5_fullestOne_7 : decode cX5_fullestOne 7 = .ok (.if_icmp .ge 28, 3) := by decide +kernel
theorem dX5_fullestOne_10 : decode cX5_fullestOne 10 = .ok (.aload_n 0, 1) := by decide +kernel
theorem dX5_fullestOne_11 : decode cX5_fullestOne 11 = .ok (.iload_n 2, 1) := by decide +kernel
theorem dX5_fullestOne_12 : decode cX5_fullestOne 12 = .ok (.invokevirtual 63, 3) := by decide +kernel
theorem dX5_fullestOne_15 : decode cX5_fullestOne 15 = .ok (.aload_n 0, 1) := by decide +kernel
theorem dX5_fullestOne_16 : decode cX5_fullestOne 16 = .ok (.iload_n 1, 1) := by decide +kernel
theorem dX5_fullestOne_17 : decode cX5_fullestOne 17 = .ok (.invokevirtual 63, 3) := by decide +kernel
theorem dX5_fullestOne_20 : decode cX5_fullestOne 20 = .ok (.if_icmp .le 7, 3) := by decide +kernel
theorem dX5_fullestOne_23 : decode cX5_fullestOne 23 = .ok (.iload_n 2, 1) := by decide +kernel
theorem dX5_fullestOne_24 : decode cX5_fullestOne 24 = .ok (.goto 4, 3) := by decide +kernel
theorem dX5_fullestOne_27 : decode cX5_fullestOne 27 = .ok (.iload_n 1, 1) := by decide +kernel
theorem dX5_fullestOne_28 : decode cX5_fullestOne 28 = .ok (.istore_n 1, 1) := by decide +kernel
theorem dX5_fullestOne_29 : decode cX5_fullestOne 29 = .ok (.iinc 2 1, 3) := by decide +kernel
theorem dX5_fullestOne_32 : decode cX5_fullestOne 32 = .ok (.goto (-28), 3) := by decide +kernel
theorem dX5_fullestOne_35 : decode cX5_fullestOne 35 = .ok (.iload_n 1, 1) := by decide +kernel
theorem dX5_fullestOne_36 : decode cX5_fullestOne 36 = .ok (.ireturn, 1) := by decide +kernel
theorem dX5_fullest_0 : decode cX5_fullest 0 = .ok (.aload_n 0, 1) := by decide +kernel
theorem dX5_fullest_1 : decode cX5_fullest 1 = .ok (.iconst 0, 1) := by decide +kernel
theorem dX5_fullest_2 : decode cX5_fullest 2 = .ok (.putfield 35, 3) := by decide +kernel
theorem dX5_fullest_5 : decode cX5_fullest 5 = .ok (.aload_n 0, 1) := by decide +kernel
theorem dX5_fullest_6 : decode cX5_fullest 6 = .ok (.invokevirtual 168, 3) := by decide +kernel
theorem dX5_fullest_9 : decode cX5_fullest 9 = .ok (.ireturn, 1) := by decide +kernel
theorem dX5_share_0 : decode cX5_share 0 = .ok (.iconst 0, 1) := by decide +kernel
theorem dX5_share_1 : decode cX5_share 1 = .ok (.istore_n 1, 1) := by decide +kernel
theorem dX5_share_2 : decode cX5_share 2 = .ok (.iconst 0, 1) := by decide +kernel
theorem dX5_share_3 : decode cX5_share 3 = .ok (.istore_n 2, 1) := by decide +kernel
theorem dX5_share_4 : decode cX5_share 4 = .ok (.iconst 0, 1) := by decide +kernel
theorem dX5_share_5 : decode cX5_share 5 = .ok (.istore_n 3, 1) := by decide +kernel
theorem dX5_share_6 : decode cX5_share 6 = .ok (.iload_n 3, 1) := by decide +kernel
theorem dX5_share_7 : decode cX5_share 7 = .ok (.bipush 7, 2) := by decide +kernel
theorem dX5_share_9 : decode cX5_share 9 = .ok (.if_icmp .ge 34, 3) := by decide +kernel
theorem dX5_share_12 : decode cX5_share 12 = .ok (.iload_n 1, 1) := by decide +kernel
theorem dX5_share_13 : decode cX5_share 13 = .ok (.bipush 10, 2) := by decide +kernel
theorem dX5_share_15 : decode cX5_share 15 = .ok (.aload_n 0, 1) := by decide +kernel
theorem dX5_share_16 : decode cX5_share 16 = .ok (.iload_n 3, 1) := by decide +kernel
theorem dX5_share_17 : decode cX5_share 17 = .ok (.invokevirtual 130, 3) := by decide +kernel
theorem dX5_share_20 : decode cX5_share 20 = .ok (.imul, 1) := by decide +kernel
theorem dX5_share_21 : decode cX5_share 21 = .ok (.iadd, 1) := by decide +kernel
theorem dX5_share_22 : decode cX5_share 22 = .ok (.istore_n 1, 1) := by decide +kernel
theorem dX5_share_23 : decode cX5_share 23 = .ok (.iload_n 2, 1) := by decide +kernel
theorem dX5_share_24 : decode cX5_share 24 = .ok (.aload_n 0, 1) := by decide +kernel
theorem dX5_share_25 : decode cX5_share 25 = .ok (.iload_n 3, 1) := by decide +kernel
theorem dX5_share_26 : decode cX5_share 26 = .ok (.invokevirtual 63, 3) := by decide +kernel
theorem dX5_share_29 : decode cX5_share 29 = .ok (.aload_n 0, 1) := by decide +kernel
theorem dX5_share_30 : decode cX5_share 30 = .ok (.iload_n 3, 1) := by decide +kernel
theorem dX5_share_31 : decode cX5_share 31 = .ok (.invokevirtual 130, 3) := by decide +kernel
theorem dX5_share_34 : decode cX5_share 34 = .ok (.isub, 1) := by decide +kernel
theorem dX5_share_35 : decode cX5_share 35 = .ok (.iadd, 1) := by decide +kernel
theorem dX5_share_36 : decode cX5_share 36 = .ok (.istore_n 2, 1) := by decide +kernel
theorem dX5_share_37 : decode cX5_share 37 = .ok (.iinc 3 1, 3) := by decide +kernel
theorem dX5_share_40 : decode cX5_share 40 = .ok (.goto (-34), 3) := by decide +kernel
theorem dX5_share_43 : decode cX5_share 43 = .ok (.iload_n 2, 1) := by decide +kernel
theorem dX5_share_44 : decode cX5_share 44 = .ok (.ifCond .ne 7, 3) := by decide +kernel
theorem dX5_share_47 : decode cX5_share 47 = .ok (.dconst 0, 1) := by decide +kernel
theorem dX5_share_48 : decode cX5_share 48 = .ok (.goto 8, 3) := by decide +kernel
theorem dX5_share_51 : decode cX5_share 51 = .ok (.iload_n 1, 1) := by decide +kernel
theorem dX5_share_52 : decode cX5_share 52 = .ok (.i2d, 1) := by decide +kernel
theorem dX5_share_53 : decode cX5_share 53 = .ok (.iload_n 2, 1) := by decide +kernel
theorem dX5_share_54 : decode cX5_share 54 = .ok (.i2d, 1) := by decide +kernel
theorem dX5_share_55 : decode cX5_share 55 = .ok (.ddiv, 1) := by decide +kernel
theorem dX5_share_56 : decode cX5_share 56 = .ok (.dreturn, 1) := by decide +kernel
theorem dX5_closedShare_0 : decode cX5_closedShare 0 = .ok (.aload_n 0, 1) := by decide +kernel
theorem dX5_closedShare_1 : decode cX5_closedShare 1 = .ok (.iconst 0, 1) := by decide +kernel
theorem dX5_closedShare_2 : decode cX5_closedShare 2 = .ok (.putfield 35, 3) := by decide +kernel
theorem dX5_closedShare_5 : decode cX5_closedShare 5 = .ok (.aload_n 0, 1) := by decide +kernel
theorem dX5_closedShare_6 : decode cX5_closedShare 6 = .ok (.invokevirtual 171, 3) := by decide +kernel
theorem dX5_closedShare_9 : decode cX5_closedShare 9 = .ok (.dreturn, 1) := by decide +kernel
theorem dX5_bitsOf_0 : decode cX5_bitsOf 0 = .ok (.dload_n 0, 1) := by decide +kernel
theorem dX5_bitsOf_1 : decode cX5_bitsOf 1 = .ok (.dconst 0, 1) := by decide +kernel
theorem dX5_bitsOf_2 : decode cX5_bitsOf 2 = .ok (.dcmp .l, 1) := by decide +kernel
theorem dX5_bitsOf_3 : decode cX5_bitsOf 3 = .ok (.ifCond .ne 5, 3) := by decide +kernel
theorem dX5_bitsOf_6 : decode cX5_bitsOf 6 = .ok (.lconst 0, 1) := by decide +kernel
theorem dX5_bitsOf_7 : decode cX5_bitsOf 7 = .ok (.lreturn, 1) := by decide +kernel
theorem dX5_bitsOf_8 : decode cX5_bitsOf 8 = .ok (.ldc2_w 175, 3) := by decide +kernel
theorem dX5_bitsOf_11 : decode cX5_bitsOf 11 = .ok (.lstore_n 2, 1) := by decide +kernel
theorem dX5_bitsOf_12 : decode cX5_bitsOf 12 = .ok (.dload_n 0, 1) := by decide +kernel
theorem dX5_bitsOf_13 : decode cX5_bitsOf 13 = .ok (.dstore 4, 2) := by decide +kernel
theorem dX5_bitsOf_15 : decode cX5_bitsOf 15 = .ok (.dload 4, 2) := by decide +kernel
theorem dX5_bitsOf_17 : decode cX5_bitsOf 17 = .ok (.dconst 1, 1) := by decide +kernel
theorem dX5_bitsOf_18 : decode cX5_bitsOf 18 = .ok (.dcmp .g, 1) := by decide +kernel
theorem dX5_bitsOf_19 : decode cX5_bitsOf 19 = .ok (.ifCond .ge 18, 3) := by decide +kernel
theorem dX5_bitsOf_22 : decode cX5_bitsOf 22 = .ok (.dload 4, 2) := by decide +kernel
theorem dX5_bitsOf_24 : decode cX5_bitsOf 24 = .ok (.ldc2_w 177, 3) := by decide +kernel
theorem dX5_bitsOf_27 : decode cX5_bitsOf 27 = .ok (.dmul, 1) := by decide +kernel
theorem dX5_bitsOf_28 : decode cX5_bitsOf 28 = .ok (.dstore 4, 2) := by decide +kernel
theorem dX5_bitsOf_30 : decode cX5_bitsOf 30 = .ok (.lload_n 2, 1) := by decide +kernel
theorem dX5_bitsOf_31 : decode cX5_bitsOf 31 = .ok (.lconst 1, 1) := by decide +kernel
theorem dX5_bitsOf_32 : decode cX5_bitsOf 32 = .ok (.lsub, 1) := by decide +kernel
theorem dX5_bitsOf_33 : decode cX5_bitsOf 33 = .ok (.lstore_n 2, 1) := by decide +kernel
theorem dX5_bitsOf_34 : decode cX5_bitsOf 34 = .ok (.goto (-19), 3) := by decide +kernel
theorem dX5_bitsOf_37 : decode cX5_bitsOf 37 = .ok (.lload_n 2, 1) := by decide +kernel
theorem dX5_bitsOf_38 : decode cX5_bitsOf 38 = .ok (.ldc2_w 179, 3) := by decide +kernel
theorem dX5_bitsOf_41 : decode cX5_bitsOf 41 = .ok (.lmul, 1) := by decide +kernel
theorem dX5_bitsOf_42 : decode cX5_bitsOf 42 = .ok (.dload 4, 2) := by decide +kernel
theorem dX5_bitsOf_44 : decode cX5_bitsOf 44 = .ok (.dconst 1, 1) := by decide +kernel
theorem dX5_bitsOf_45 : decode cX5_bitsOf 45 = .ok (.dsub, 1) := by decide +kernel
theorem dX5_bitsOf_46 : decode cX5_bitsOf 46 = .ok (.ldc2_w 181, 3) := by decide +kernel
theorem dX5_bitsOf_49 : decode cX5_bitsOf 49 = .ok (.dmul, 1) := by decide +kernel
theorem dX5_bitsOf_50 : decode cX5_bitsOf 50 = .ok (.d2l, 1) := by decide +kernel
theorem dX5_bitsOf_51 : decode cX5_bitsOf 51 = .ok (.ladd, 1) := by decide +kernel
theorem dX5_bitsOf_52 : decode cX5_bitsOf 52 = .ok (.lreturn, 1) := by decide +kernel
theorem dX5_digestOne_0 : decode cX5_digestOne 0 = .ok (.aload_n 0, 1) := by decide +kernel
theorem dX5_digestOne_1 : decode cX5_digestOne 1 = .ok (.ldc2_w 183, 3) := by decide +kernel
theorem dX5_digestOne_4 : decode cX5_digestOne 4 = .ok (.aload_n 0, 1) := by decide +kernel
theorem dX5_digestOne_5 : decode cX5_digestOne 5 = .ok (.getfield 185, 3) := by decide +kernel
theorem dX5_digestOne_8 : decode cX5_digestOne 8 = .ok (.lmul, 1) := by decide +kernel
theorem dX5_digestOne_9 : decode cX5_digestOne 9 = .ok (.lload_n 1, 1) := by decide +kernel
theorem dX5_digestOne_10 : decode cX5_digestOne 10 = .ok (.ladd, 1) := by decide +kernel
theorem dX5_digestOne_11 : decode cX5_digestOne 11 = .ok (.putfield 185, 3) := by decide +kernel
theorem dX5_digestOne_14 : decode cX5_digestOne 14 = .ok (.return_, 1) := by decide +kernel
theorem dX5_digestCord_0 : decode cX5_digestCord 0 = .ok (.iconst 0, 1) := by decide +kernel
theorem dX5_digestCord_1 : decode cX5_digestCord 1 = .ok (.istore_n 2, 1) := by decide +kernel
theorem dX5_digestCord_2 : decode cX5_digestCord 2 = .ok (.iload_n 2, 1) := by decide +kernel
theorem dX5_digestCord_3 : decode cX5_digestCord 3 = .ok (.bipush 8, 2) := by decide +kernel
theorem dX5_digestCord_5 : decode cX5_digestCord 5 = .ok (.if_icmp .ge 20, 3) := by decide +kernel
theorem dX5_digestCord_8 : decode cX5_digestCord 8 = .ok (.aload_n 0, 1) := by decide +kernel
theorem dX5_digestCord_9 : decode cX5_digestCord 9 = .ok (.aload_n 0, 1) := by decide +kernel
theorem dX5_digestCord_10 : decode cX5_digestCord 10 = .ok (.iload_n 1, 1) := by decide +kernel
theorem dX5_digestCord_11 : decode cX5_digestCord 11 = .ok (.iload_n 2, 1) := by decide +kernel
theorem dX5_digestCord_12 : decode cX5_digestCord 12 = .ok (.invokevirtual 133, 3) := by decide +kernel
theorem dX5_digestCord_15 : decode cX5_digestCord 15 = .ok (.i2l, 1) := by decide +kernel
theorem dX5_digestCord_16 : decode cX5_digestCord 16 = .ok (.invokevirtual 189, 3) := by decide +kernel
theorem dX5_digestCord_19 : decode cX5_digestCord 19 = .ok (.iinc 2 1, 3) := by decide +kernel
theorem dX5_digestCord_22 : decode cX5_digestCord 22 = .ok (.goto (-20), 3) := by decide +kernel
theorem dX5_digestCord_25 : decode cX5_digestCord 25 = .ok (.iconst 0, 1) := by decide +kernel
theorem dX5_digestCord_26 : decode cX5_digestCord 26 = .ok (.istore_n 2, 1) := by decide +kernel
theorem dX5_digestCord_27 : decode cX5_digestCord 27 = .ok (.iload_n 2, 1) := by decide +kernel
theorem dX5_digestCord_28 : decode cX5_digestCord 28 = .ok (.bipush 24, 2) := by decide +kernel
theorem dX5_digestCord_30 : decode cX5_digestCord 30 = .ok (.if_icmp .ge 25, 3) := by decide +kernel
theorem dX5_digestCord_33 : decode cX5_digestCord 33 = .ok (.aload_n 0, 1) := by decide +kernel
theorem dX5_digestCord_34 : decode cX5_digestCord 34 = .ok (.aload_n 0, 1) := by decide +kernel
theorem dX5_digestCord_35 : decode cX5_digestCord 35 = .ok (.iload_n 1, 1) := by decide +kernel
theorem dX5_digestCord_36 : decode cX5_digestCord 36 = .ok (.iload_n 2, 1) := by decide +kernel
theorem dX5_digestCord_37 : decode cX5_digestCord 37 = .ok (.iconst 4, 1) := by decide +kernel
theorem dX5_digestCord_38 : decode cX5_digestCord 38 = .ok (.idiv, 1) := by decide +kernel
theorem dX5_digestCord_39 : decode cX5_digestCord 39 = .ok (.iload_n 2, 1) := by decide +kernel
theorem dX5_digestCord_40 : decode cX5_digestCord 40 = .ok (.iconst 4, 1) := by decide +kernel
theorem dX5_digestCord_41 : decode cX5_digestCord 41 = .ok (.irem, 1) := by decide +kernel
theorem dX5_digestCord_42 : decode cX5_digestCord 42 = .ok (.invokevirtual 136, 3) := by decide +kernel
theorem dX5_digestCord_45 : decode cX5_digestCord 45 = .ok (.i2l, 1) := by decide +kernel
theorem dX5_digestCord_46 : decode cX5_digestCord 46 = .ok (.invokevirtual 189, 3) := by decide +kernel
theorem dX5_digestCord_49 : decode cX5_digestCord 49 = .ok (.iinc 2 1, 3) := by decide +kernel
theorem dX5_digestCord_52 : decode cX5_digestCord 52 = .ok (.goto (-25), 3) := by decide +kernel
theorem dX5_digestCord_55 : decode cX5_digestCord 55 = .ok (.iconst 0, 1) := by decide +kernel
theorem dX5_digestCord_56 : decode cX5_digestCord 56 = .ok (.istore_n 2, 1) := by decide +kernel
theorem dX5_digestCord_57 : decode cX5_digestCord 57 = .ok (.iload_n 2, 1) := by decide +kernel
theorem dX5_digestCord_58 : decode cX5_digestCord 58 = .ok (.aload_n 0, 1) := by decide +kernel
theorem dX5_digestCord_59 : decode cX5_digestCord 59 = .ok (.iload_n 1, 1) := by decide +kernel
theorem dX5_digestCord_60 : decode cX5_digestCord 60 = .ok (.iconst 1, 1) := by decide +kernel
theorem dX5_digestCord_61 : decode cX5_digestCord 61 = .ok (.invokevirtual 50, 3) := by decide +kernel
theorem dX5_digestCord_64 : decode cX5_digestCord 64 = .ok (.if_icmp .ge 22, 3) := by decide +kernel
theorem dX5_digestCord_67 : decode cX5_digestCord 67 = .ok (.aload_n 0, 1) := by decide +kernel
theorem dX5_digestCord_68 : decode cX5_digestCord 68 = .ok (.aload_n 0, 1) := by decide +kernel
theorem dX5_digestCord_69 : decode cX5_digestCord 69 = .ok (.iload_n 1, 1) := by decide +kernel
theorem dX5_digestCord_70 : decode cX5_digestCord 70 = .ok (.iconst 3, 1) := by decide +kernel
theorem dX5_digestCord_71 : decode cX5_digestCord 71 = .ok (.iload_n 2, 1) := by decide +kernel
theorem dX5_digestCord_72 : decode cX5_digestCord 72 = .ok (.iadd, 1) := by decide +kernel
theorem dX5_digestCord_73 : decode cX5_digestCord 73 = .ok (.invokevirtual 50, 3) := by decide +kernel
theorem dX5_digestCord_76 : decode cX5_digestCord 76 = .ok (.i2l, 1) := by decide +kernel
theorem dX5_digestCord_77 : decode cX5_digestCord 77 = .ok (.invokevirtual 189, 3) := by decide +kernel
theorem dX5_digestCord_80 : decode cX5_digestCord 80 = .ok (.iinc 2 1, 3) := by decide +kernel
theorem dX5_digestCord_83 : decode cX5_digestCord 83 = .ok (.goto (-26), 3) := by decide +kernel
theorem dX5_digestCord_86 : decode cX5_digestCord 86 = .ok (.aload_n 0, 1) := by decide +kernel
theorem dX5_digestCord_87 : decode cX5_digestCord 87 = .ok (.aload_n 0, 1) := by decide +kernel
theorem dX5_digestCord_88 : decode cX5_digestCord 88 = .ok (.iload_n 1, 1) := by decide +kernel
theorem dX5_digestCord_89 : decode cX5_digestCord 89 = .ok (.sipush 999, 3) := by decide +kernel
theorem dX5_digestCord_92 : decode cX5_digestCord 92 = .ok (.invokevirtual 70, 3) := by decide +kernel
theorem dX5_digestCord_95 : decode cX5_digestCord 95 = .ok (.i2l, 1) := by decide +kernel
theorem dX5_digestCord_96 : decode cX5_digestCord 96 = .ok (.invokevirtual 189, 3) := by decide +kernel
theorem dX5_digestCord_99 : decode cX5_digestCord 99 = .ok (.aload_n 0, 1) := by decide +kernel
theorem dX5_digestCord_100 : decode cX5_digestCord 100 = .ok (.aload_n 0, 1) := by decide +kernel
theorem dX5_digestCord_101 : decode cX5_digestCord 101 = .ok (.iload_n 1, 1) := by decide +kernel
theorem dX5_digestCord_102 : decode cX5_digestCord 102 = .ok (.bipush 95, 2) := by decide +kernel
theorem dX5_digestCord_104 : decode cX5_digestCord 104 = .ok (.invokevirtual 155, 3) := by decide +kernel
theorem dX5_digestCord_107 : decode cX5_digestCord 107 = .ok (.i2l, 1) := by decide +kernel
theorem dX5_digestCord_108 : decode cX5_digestCord 108 = .ok (.invokevirtual 189, 3) := by decide +kernel
theorem dX5_digestCord_111 : decode cX5_digestCord 111 = .ok (.return_, 1) := by decide +kernel
theorem dX5_digest_0 : decode cX5_digest 0 = .ok (.aload_n 0, 1) := by decide +kernel
theorem dX5_digest_1 : decode cX5_digest 1 = .ok (.iconst 0, 1) := by decide +kernel
theorem dX5_digest_2 : decode cX5_digest 2 = .ok (.putfield 35, 3) := by decide +kernel
theorem dX5_digest_5 : decode cX5_digest 5 = .ok (.aload_n 0, 1) := by decide +kernel
theorem dX5_digest_6 : decode cX5_digest 6 = .ok (.ldc2_w 193, 3) := by decide +kernel
theorem dX5_digest_9 : decode cX5_digest 9 = .ok (.putfield 185, 3) := by decide +kernel
theorem dX5_digest_12 : decode cX5_digest 12 = .ok (.iconst 0, 1) := by decide +kernel
theorem dX5_digest_13 : decode cX5_digest 13 = .ok (.istore_n 1, 1) := by decide +kernel
theorem dX5_digest_14 : decode cX5_digest 14 = .ok (.iload_n 1, 1) := by decide +kernel
theorem dX5_digest_15 : decode cX5_digest 15 = .ok (.bipush 10, 2) := by decide +kernel
theorem dX5_digest_17 : decode cX5_digest 17 = .ok (.if_icmp .ge 19, 3) := by decide +kernel
theorem dX5_digest_20 : decode cX5_digest 20 = .ok (.aload_n 0, 1) := by decide +kernel
theorem dX5_digest_21 : decode cX5_digest 21 = .ok (.aload_n 0, 1) := by decide +kernel
theorem dX5_digest_22 : decode cX5_digest 22 = .ok (.iload_n 1, 1) := by decide +kernel
theorem dX5_digest_23 : decode cX5_digest 23 = .ok (.invokevirtual 143, 3) := by decide +kernel
theorem dX5_digest_26 : decode cX5_digest 26 = .ok (.i2l, 1) := by decide +kernel
theorem dX5_digest_27 : decode cX5_digest 27 = .ok (.invokevirtual 189, 3) := by decide +kernel
theorem dX5_digest_30 : decode cX5_digest 30 = .ok (.iinc 1 1, 3) := by decide +kernel
theorem dX5_digest_33 : decode cX5_digest 33 = .ok (.goto (-19), 3) := by decide +kernel
theorem dX5_digest_36 : decode cX5_digest 36 = .ok (.iconst 0, 1) := by decide +kernel
theorem dX5_digest_37 : decode cX5_digest 37 = .ok (.istore_n 1, 1) := by decide +kernel
theorem dX5_digest_38 : decode cX5_digest 38 = .ok (.iload_n 1, 1) := by decide +kernel
theorem dX5_digest_39 : decode cX5_digest 39 = .ok (.bipush 7, 2) := by decide +kernel
theorem dX5_digest_41 : decode cX5_digest 41 = .ok (.if_icmp .ge 14, 3) := by decide +kernel
theorem dX5_digest_44 : decode cX5_digest 44 = .ok (.aload_n 0, 1) := by decide +kernel
theorem dX5_digest_45 : decode cX5_digest 45 = .ok (.iload_n 1, 1) := by decide +kernel
theorem dX5_digest_46 : decode cX5_digest 46 = .ok (.invokevirtual 195, 3) := by decide +kernel
theorem dX5_digest_49 : decode cX5_digest 49 = .ok (.iinc 1 1, 3) := by decide +kernel
theorem dX5_digest_52 : decode cX5_digest 52 = .ok (.goto (-14), 3) := by decide +kernel
theorem dX5_digest_55 : decode cX5_digest 55 = .ok (.iconst 0, 1) := by decide +kernel
theorem dX5_digest_56 : decode cX5_digest 56 = .ok (.istore_n 1, 1) := by decide +kernel
theorem dX5_digest_57 : decode cX5_digest 57 = .ok (.iload_n 1, 1) := by decide +kernel
theorem dX5_digest_58 : decode cX5_digest 58 = .ok (.bipush 6, 2) := by decide +kernel
theorem dX5_digest_60 : decode cX5_digest 60 = .ok (.if_icmp .ge 19, 3) := by decide +kernel
theorem dX5_digest_63 : decode cX5_digest 63 = .ok (.aload_n 0, 1) := by decide +kernel
theorem dX5_digest_64 : decode cX5_digest 64 = .ok (.aload_n 0, 1) := by decide +kernel
theorem dX5_digest_65 : decode cX5_digest 65 = .ok (.iload_n 1, 1) := by decide +kernel
theorem dX5_digest_66 : decode cX5_digest 66 = .ok (.invokevirtual 146, 3) := by decide +kernel
theorem dX5_digest_69 : decode cX5_digest 69 = .ok (.i2l, 1) := by decide +kernel
theorem dX5_digest_70 : decode cX5_digest 70 = .ok (.invokevirtual 189, 3) := by decide +kernel
theorem dX5_digest_73 : decode cX5_digest 73 = .ok (.iinc 1 1, 3) := by decide +kernel
theorem dX5_digest_76 : decode cX5_digest 76 = .ok (.goto (-19), 3) := by decide +kernel
theorem dX5_digest_79 : decode cX5_digest 79 = .ok (.aload_n 0, 1) := by decide +kernel
theorem dX5_digest_80 : decode cX5_digest 80 = .ok (.aload_n 0, 1) := by decide +kernel
theorem dX5_digest_81 : decode cX5_digest 81 = .ok (.bipush 95, 2) := by decide +kernel
theorem dX5_digest_83 : decode cX5_digest 83 = .ok (.invokevirtual 165, 3) := by decide +kernel
theorem dX5_digest_86 : decode cX5_digest 86 = .ok (.i2l, 1) := by decide +kernel
theorem dX5_digest_87 : decode cX5_digest 87 = .ok (.invokevirtual 189, 3) := by decide +kernel
theorem dX5_digest_90 : decode cX5_digest 90 = .ok (.aload_n 0, 1) := by decide +kernel
theorem dX5_digest_91 : decode cX5_digest 91 = .ok (.aload_n 0, 1) := by decide +kernel
theorem dX5_digest_92 : decode cX5_digest 92 = .ok (.bipush 95, 2) := by decide +kernel
theorem dX5_digest_94 : decode cX5_digest 94 = .ok (.invokevirtual 165, 3) := by decide +kernel
theorem dX5_digest_97 : decode cX5_digest 97 = .ok (.i2l, 1) := by decide +kernel
theorem dX5_digest_98 : decode cX5_digest 98 = .ok (.invokevirtual 189, 3) := by decide +kernel
theorem dX5_digest_101 : decode cX5_digest 101 = .ok (.aload_n 0, 1) := by decide +kernel
theorem dX5_digest_102 : decode cX5_digest 102 = .ok (.aload_n 0, 1) := by decide +kernel
theorem dX5_digest_103 : decode cX5_digest 103 = .ok (.sipush 1234, 3) := by decide +kernel
theorem dX5_digest_106 : decode cX5_digest 106 = .ok (.invokevirtual 165, 3) := by decide +kernel
theorem dX5_digest_109 : decode cX5_digest 109 = .ok (.i2l, 1) := by decide +kernel
theorem dX5_digest_110 : decode cX5_digest 110 = .ok (.invokevirtual 189, 3) := by decide +kernel
theorem dX5_digest_113 : decode cX5_digest 113 = .ok (.aload_n 0, 1) := by decide +kernel
theorem dX5_digest_114 : decode cX5_digest 114 = .ok (.aload_n 0, 1) := by decide +kernel
theorem dX5_digest_115 : decode cX5_digest 115 = .ok (.sipush 1234, 3) := by decide +kernel
theorem dX5_digest_118 : decode cX5_digest 118 = .ok (.invokevirtual 165, 3) := by decide +kernel
theorem dX5_digest_121 : decode cX5_digest 121 = .ok (.i2l, 1) := by decide +kernel
theorem dX5_digest_122 : decode cX5_digest 122 = .ok (.invokevirtual 189, 3) := by decide +kernel
theorem dX5_digest_125 : decode cX5_digest 125 = .ok (.aload_n 0, 1) := by decide +kernel
theorem dX5_digest_126 : decode cX5_digest 126 = .ok (.aload_n 0, 1) := by decide +kernel
theorem dX5_digest_127 : decode cX5_digest 127 = .ok (.invokevirtual 168, 3) := by decide +kernel
theorem dX5_digest_130 : decode cX5_digest 130 = .ok (.i2l, 1) := by decide +kernel
theorem dX5_digest_131 : decode cX5_digest 131 = .ok (.invokevirtual 189, 3) := by decide +kernel
theorem dX5_digest_134 : decode cX5_digest 134 = .ok (.aload_n 0, 1) := by decide +kernel
theorem dX5_digest_135 : decode cX5_digest 135 = .ok (.aload_n 0, 1) := by decide +kernel
theorem dX5_digest_136 : decode cX5_digest 136 = .ok (.invokevirtual 171, 3) := by decide +kernel
theorem dX5_digest_139 : decode cX5_digest 139 = .ok (.invokestatic 199, 3) := by decide +kernel
theorem dX5_digest_142 : decode cX5_digest 142 = .ok (.invokevirtual 189, 3) := by decide +kernel
theorem dX5_digest_145 : decode cX5_digest 145 = .ok (.aload_n 0, 1) := by decide +kernel
theorem dX5_digest_146 : decode cX5_digest 146 = .ok (.aload_n 0, 1) := by decide +kernel
theorem dX5_digest_147 : decode cX5_digest 147 = .ok (.getfield 19, 3) := by decide +kernel
theorem dX5_digest_150 : decode cX5_digest 150 = .ok (.iconst 0, 1) := by decide +kernel
theorem dX5_digest_151 : decode cX5_digest 151 = .ok (.baload, 1) := by decide +kernel
theorem dX5_digest_152 : decode cX5_digest 152 = .ok (.ifCond .eq 7, 3) := by decide +kernel
theorem dX5_digest_155 : decode cX5_digest 155 = .ok (.lconst 1, 1) := by decide +kernel
theorem dX5_digest_156 : decode cX5_digest 156 = .ok (.goto 4, 3) := by decide +kernel
theorem dX5_digest_159 : decode cX5_digest 159 = .ok (.lconst 0, 1) := by decide +kernel
theorem dX5_digest_160 : decode cX5_digest 160 = .ok (.invokevirtual 189, 3) := by decide +kernel
theorem dX5_digest_163 : decode cX5_digest 163 = .ok (.aload_n 0, 1) := by decide +kernel
theorem dX5_digest_164 : decode cX5_digest 164 = .ok (.aload_n 0, 1) := by decide +kernel
theorem dX5_digest_165 : decode cX5_digest 165 = .ok (.getfield 19, 3) := by decide +kernel
theorem dX5_digest_168 : decode cX5_digest 168 = .ok (.iconst 1, 1) := by decide +kernel
theorem dX5_digest_169 : decode cX5_digest 169 = .ok (.baload, 1) := by decide +kernel
theorem dX5_digest_170 : decode cX5_digest 170 = .ok (.ifCond .eq 7, 3) := by decide +kernel
theorem dX5_digest_173 : decode cX5_digest 173 = .ok (.lconst 1, 1) := by decide +kernel
theorem dX5_digest_174 : decode cX5_digest 174 = .ok (.goto 4, 3) := by decide +kernel
theorem dX5_digest_177 : decode cX5_digest 177 = .ok (.lconst 0, 1) := by decide +kernel
theorem dX5_digest_178 : decode cX5_digest 178 = .ok (.invokevirtual 189, 3) := by decide +kernel
theorem dX5_digest_181 : decode cX5_digest 181 = .ok (.aload_n 0, 1) := by decide +kernel
theorem dX5_digest_182 : decode cX5_digest 182 = .ok (.aload_n 0, 1) := by decide +kernel
theorem dX5_digest_183 : decode cX5_digest 183 = .ok (.getfield 104, 3) := by decide +kernel
theorem dX5_digest_186 : decode cX5_digest 186 = .ok (.i2l, 1) := by decide +kernel
theorem dX5_digest_187 : decode cX5_digest 187 = .ok (.invokevirtual 189, 3) := by decide +kernel
theorem dX5_digest_190 : decode cX5_digest 190 = .ok (.iconst 0, 1) := by decide +kernel
theorem dX5_digest_191 : decode cX5_digest 191 = .ok (.istore_n 1, 1) := by decide +kernel
theorem dX5_digest_192 : decode cX5_digest 192 = .ok (.iload_n 1, 1) := by decide +kernel
theorem dX5_digest_193 : decode cX5_digest 193 = .ok (.aload_n 0, 1) := by decide +kernel
theorem dX5_digest_194 : decode cX5_digest 194 = .ok (.getfield 104, 3) := by decide +kernel
theorem dX5_digest_197 : decode cX5_digest 197 = .ok (.if_icmp .ge 20, 3) := by decide +kernel
theorem dX5_digest_200 : decode cX5_digest 200 = .ok (.aload_n 0, 1) := by decide +kernel
theorem dX5_digest_201 : decode cX5_digest 201 = .ok (.aload_n 0, 1) := by decide +kernel
theorem dX5_digest_202 : decode cX5_digest 202 = .ok (.getfield 26, 3) := by decide +kernel
theorem dX5_digest_205 : decode cX5_digest 205 = .ok (.iload_n 1, 1) := by decide +kernel
theorem dX5_digest_206 : decode cX5_digest 206 = .ok (.iaload, 1) := by decide +kernel
theorem dX5_digest_207 : decode cX5_digest 207 = .ok (.i2l, 1) := by decide +kernel
theorem dX5_digest_208 : decode cX5_digest 208 = .ok (.invokevirtual 189, 3) := by decide +kernel
theorem dX5_digest_211 : decode cX5_digest 211 = .ok (.iinc 1 1, 3) := by decide +kernel
theorem dX5_digest_214 : decode cX5_digest 214 = .ok (.goto (-22), 3) := by decide +kernel
theorem dX5_digest_217 : decode cX5_digest 217 = .ok (.aload_n 0, 1) := by decide +kernel
theorem dX5_digest_218 : decode cX5_digest 218 = .ok (.getfield 185, 3) := by decide +kernel
theorem dX5_digest_221 : decode cX5_digest 221 = .ok (.lreturn, 1) := by decide +kernel
theorem dJ6_compare_7cf53_0 : decode cJ6_compare_7cf53 0 = .ok (.iload_n 0, 1) := by decide +kernel
theorem dJ6_compare_7cf53_1 : decode cJ6_compare_7cf53 1 = .ok (.iload_n 1, 1) := by decide +kernel
theorem dJ6_compare_7cf53_2 : decode cJ6_compare_7cf53 2 = .ok (.if_icmp .ge 7, 3) := by decide +kernel
theorem dJ6_compare_7cf53_5 : decode cJ6_compare_7cf53 5 = .ok (.iconst (-1), 1) := by decide +kernel
theorem dJ6_compare_7cf53_6 : decode cJ6_compare_7cf53 6 = .ok (.goto 13, 3) := by decide +kernel
theorem dJ6_compare_7cf53_9 : decode cJ6_compare_7cf53 9 = .ok (.iload_n 0, 1) := by decide +kernel
theorem dJ6_compare_7cf53_10 : decode cJ6_compare_7cf53 10 = .ok (.iload_n 1, 1) := by decide +kernel
theorem dJ6_compare_7cf53_11 : decode cJ6_compare_7cf53 11 = .ok (.if_icmp .ne 7, 3) := by decide +kernel
theorem dJ6_compare_7cf53_14 : decode cJ6_compare_7cf53 14 = .ok (.iconst 0, 1) := by decide +kernel
theorem dJ6_compare_7cf53_15 : decode cJ6_compare_7cf53 15 = .ok (.goto 4, 3) := by decide +kernel
theorem dJ6_compare_7cf53_18 : decode cJ6_compare_7cf53 18 = .ok (.iconst 1, 1) := by decide +kernel
theorem dJ6_compare_7cf53_19 : decode cJ6_compare_7cf53 19 = .ok (.ireturn, 1) := by decide +kernel
theorem dJ6_bitCount_0f7a4_0 : decode cJ6_bitCount_0f7a4 0 = .ok (.iload_n 0, 1) := by decide +kernel
theorem dJ6_bitCount_0f7a4_1 : decode cJ6_bitCount_0f7a4 1 = .ok (.iload_n 0, 1) := by decide +kernel
theorem dJ6_bitCount_0f7a4_2 : decode cJ6_bitCount_0f7a4 2 = .ok (.iconst 1, 1) := by decide +kernel
theorem dJ6_bitCount_0f7a4_3 : decode cJ6_bitCount_0f7a4 3 = .ok (.iushr, 1) := by decide +kernel
theorem dJ6_bitCount_0f7a4_4 : decode cJ6_bitCount_0f7a4 4 = .ok (.ldc_w 265, 3) := by decide +kernel
theorem dJ6_bitCount_0f7a4_7 : decode cJ6_bitCount_0f7a4 7 = .ok (.iand, 1) := by decide +kernel
theorem dJ6_bitCount_0f7a4_8 : decode cJ6_bitCount_0f7a4 8 = .ok (.isub, 1) := by decide +kernel
theorem dJ6_bitCount_0f7a4_9 : decode cJ6_bitCount_0f7a4 9 = .ok (.istore_n 0, 1) := by decide +kernel
theorem dJ6_bitCount_0f7a4_10 : decode cJ6_bitCount_0f7a4 10 = .ok (.iload_n 0, 1) := by decide +kernel
theorem dJ6_bitCount_0f7a4_11 : decode cJ6_bitCount_0f7a4 11 = .ok (.ldc_w 266, 3) := by decide +kernel
theorem dJ6_bitCount_0f7a4_14 : decode cJ6_bitCount_0f7a4 14 = .ok (.iand, 1) := by decide +kernel
theorem dJ6_bitCount_0f7a4_15 : decode cJ6_bitCount_0f7a4 15 = .ok (.iload_n 0, 1) := by decide +kernel
theorem dJ6_bitCount_0f7a4_16 : decode cJ6_bitCount_0f7a4 16 = .ok (.iconst 2, 1) := by decide +kernel
theorem dJ6_bitCount_0f7a4_17 : decode cJ6_bitCount_0f7a4 17 = .ok (.iushr, 1) := by decide +kernel
theorem dJ6_bitCount_0f7a4_18 : decode cJ6_bitCount_0f7a4 18 = .ok (.ldc_w 266, 3) := by decide +kernel
theorem dJ6_bitCount_0f7a4_21 : decode cJ6_bitCount_0f7a4 21 = .ok (.iand, 1) := by decide +kernel
theorem dJ6_bitCount_0f7a4_22 : decode cJ6_bitCount_0f7a4 22 = .ok (.iadd, 1) := by decide +kernel
theorem dJ6_bitCount_0f7a4_23 : decode cJ6_bitCount_0f7a4 23 = .ok (.istore_n 0, 1) := by decide +kernel
theorem dJ6_bitCount_0f7a4_24 : decode cJ6_bitCount_0f7a4 24 = .ok (.iload_n 0, 1) := by decide +kernel
theorem dJ6_bitCount_0f7a4_25 : decode cJ6_bitCount_0f7a4 25 = .ok (.iload_n 0, 1) := by decide +kernel
theorem dJ6_bitCount_0f7a4_26 : decode cJ6_bitCount_0f7a4 26 = .ok (.iconst 4, 1) := by decide +kernel
theorem dJ6_bitCount_0f7a4_27 : decode cJ6_bitCount_0f7a4 27 = .ok (.iushr, 1) := by decide +kernel
theorem dJ6_bitCount_0f7a4_28 : decode cJ6_bitCount_0f7a4 28 = .ok (.iadd, 1) := by decide +kernel
theorem dJ6_bitCount_0f7a4_29 : decode cJ6_bitCount_0f7a4 29 = .ok (.ldc_w 267, 3) := by decide +kernel
theorem dJ6_bitCount_0f7a4_32 : decode cJ6_bitCount_0f7a4 32 = .ok (.iand, 1) := by decide +kernel
theorem dJ6_bitCount_0f7a4_33 : decode cJ6_bitCount_0f7a4 33 = .ok (.istore_n 0, 1) := by decide +kernel
theorem dJ6_bitCount_0f7a4_34 : decode cJ6_bitCount_0f7a4 34 = .ok (.iload_n 0, 1) := by decide +kernel
theorem dJ6_bitCount_0f7a4_35 : decode cJ6_bitCount_0f7a4 35 = .ok (.iload_n 0, 1) := by decide +kernel
theorem dJ6_bitCount_0f7a4_36 : decode cJ6_bitCount_0f7a4 36 = .ok (.bipush 8, 2) := by decide +kernel
theorem dJ6_bitCount_0f7a4_38 : decode cJ6_bitCount_0f7a4 38 = .ok (.iushr, 1) := by decide +kernel
theorem dJ6_bitCount_0f7a4_39 : decode cJ6_bitCount_0f7a4 39 = .ok (.iadd, 1) := by decide +kernel
theorem dJ6_bitCount_0f7a4_40 : decode cJ6_bitCount_0f7a4 40 = .ok (.istore_n 0, 1) := by decide +kernel
theorem dJ6_bitCount_0f7a4_41 : decode cJ6_bitCount_0f7a4 41 = .ok (.iload_n 0, 1) := by decide +kernel
theorem dJ6_bitCount_0f7a4_42 : decode cJ6_bitCount_0f7a4 42 = .ok (.iload_n 0, 1) := by decide +kernel
theorem dJ6_bitCount_0f7a4_43 : decode cJ6_bitCount_0f7a4 43 = .ok (.bipush 16, 2) := by decide +kernel
theorem dJ6_bitCount_0f7a4_45 : decode cJ6_bitCount_0f7a4 45 = .ok (.iushr, 1) := by decide +kernel
theorem dJ6_bitCount_0f7a4_46 : decode cJ6_bitCount_0f7a4 46 = .ok (.iadd, 1) := by decide +kernel
theorem dJ6_bitCount_0f7a4_47 : decode cJ6_bitCount_0f7a4 47 = .ok (.istore_n 0, 1) := by decide +kernel
theorem dJ6_bitCount_0f7a4_48 : decode cJ6_bitCount_0f7a4 48 = .ok (.iload_n 0, 1) := by decide +kernel
theorem dJ6_bitCount_0f7a4_49 : decode cJ6_bitCount_0f7a4 49 = .ok (.bipush 63, 2) := by decide +kernel
theorem dJ6_bitCount_0f7a4_51 : decode cJ6_bitCount_0f7a4 51 = .ok (.iand, 1) := by decide +kernel
theorem dJ6_bitCount_0f7a4_52 : decode cJ6_bitCount_0f7a4 52 = .ok (.ireturn, 1) := by decide +kernel
theorem dJ9_max_7cf53_0 : decode cJ9_max_7cf53 0 = .ok (.iload_n 0, 1) := by decide +kernel
theorem dJ9_max_7cf53_1 : decode cJ9_max_7cf53 1 = .ok (.iload_n 1, 1) := by decide +kernel
theorem dJ9_max_7cf53_2 : decode cJ9_max_7cf53 2 = .ok (.if_icmp .lt 7, 3) := by decide +kernel
theorem dJ9_max_7cf53_5 : decode cJ9_max_7cf53 5 = .ok (.iload_n 0, 1) := by decide +kernel
theorem dJ9_max_7cf53_6 : decode cJ9_max_7cf53 6 = .ok (.goto 4, 3) := by decide +kernel
theorem dJ9_max_7cf53_9 : decode cJ9_max_7cf53 9 = .ok (.iload_n 1, 1) := by decide +kernel
theorem dJ9_max_7cf53_10 : decode cJ9_max_7cf53 10 = .ok (.ireturn, 1) := by decide +kernel
theorem dJ9_min_7cf53_0 : decode cJ9_min_7cf53 0 = .ok (.iload_n 0, 1) := by decide +kernel
theorem dJ9_min_7cf53_1 : decode cJ9_min_7cf53 1 = .ok (.iload_n 1, 1) := by decide +kernel
theorem dJ9_min_7cf53_2 : decode cJ9_min_7cf53 2 = .ok (.if_icmp .gt 7, 3) := by decide +kernel
theorem dJ9_min_7cf53_5 : decode cJ9_min_7cf53 5 = .ok (.iload_n 0, 1) := by decide +kernel
theorem dJ9_min_7cf53_6 : decode cJ9_min_7cf53 6 = .ok (.goto 4, 3) := by decide +kernel
theorem dJ9_min_7cf53_9 : decode cJ9_min_7cf53 9 = .ok (.iload_n 1, 1) := by decide +kernel
theorem dJ9_min_7cf53_10 : decode cJ9_min_7cf53 10 = .ok (.ireturn, 1) := by decide +kernel
theorem dL_tie_0 : decode cL_tie 0 = .ok (.aload_n 3, 1) := by decide +kernel
theorem dL_tie_1 : decode cL_tie 1 = .ok (.iconst 0, 1) := by decide +kernel
theorem dL_tie_2 : decode cL_tie 2 = .ok (.aload_n 0, 1) := by decide +kernel
theorem dL_tie_3 : decode cL_tie 3 = .ok (.iload_n 1, 1) := by decide +kernel
theorem dL_tie_4 : decode cL_tie 4 = .ok (.iload_n 2, 1) := by decide +kernel
theorem dL_tie_5 : decode cL_tie 5 = .ok (.invokevirtual 7, 3) := by decide +kernel
theorem dL_tie_8 : decode cL_tie 8 = .ok (.i2l, 1) := by decide +kernel
theorem dL_tie_9 : decode cL_tie 9 = .ok (.lastore, 1) := by decide +kernel
theorem dL_tie_10 : decode cL_tie 10 = .ok (.goto 11, 3) := by decide +kernel
theorem dL_tie_13 : decode cL_tie 13 = .ok (.astore 4, 2) := by decide +kernel
theorem dL_tie_15 : decode cL_tie 15 = .ok (.iconst 1, 1) := by decide +kernel
theorem dL_tie_16 : decode cL_tie 16 = .ok (.ireturn, 1) := by decide +kernel
theorem dL_tie_17 : decode cL_tie 17 = .ok (.astore 4, 2) := by decide +kernel
theorem dL_tie_19 : decode cL_tie 19 = .ok (.iconst 2, 1) := by decide +kernel
theorem dL_tie_20 : decode cL_tie 20 = .ok (.ireturn, 1) := by decide +kernel
theorem dL_tie_21 : decode cL_tie 21 = .ok (.iconst 0, 1) := by decide +kernel
theorem dL_tie_22 : decode cL_tie 22 = .ok (.ireturn, 1) := by decide +kernel
theorem dL_add_0 : decode cL_add 0 = .ok (.aload_n 3, 1) := by decide +kernel
theorem dL_add_1 : decode cL_add 1 = .ok (.iconst 0, 1) := by decide +kernel
theorem dL_add_2 : decode cL_add 2 = .ok (.aload_n 0, 1) := by decide +kernel
theorem dL_add_3 : decode cL_add 3 = .ok (.iload_n 1, 1) := by decide +kernel
theorem dL_add_4 : decode cL_add 4 = .ok (.iload_n 2, 1) := by decide +kernel
theorem dL_add_5 : decode cL_add 5 = .ok (.invokevirtual 17, 3) := by decide +kernel
theorem dL_add_8 : decode cL_add 8 = .ok (.i2l, 1) := by decide +kernel
theorem dL_add_9 : decode cL_add 9 = .ok (.lastore, 1) := by decide +kernel
theorem dL_add_10 : decode cL_add 10 = .ok (.goto 11, 3) := by decide +kernel
theorem dL_add_13 : decode cL_add 13 = .ok (.astore 4, 2) := by decide +kernel
theorem dL_add_15 : decode cL_add 15 = .ok (.iconst 1, 1) := by decide +kernel
theorem dL_add_16 : decode cL_add 16 = .ok (.ireturn, 1) := by decide +kernel
theorem dL_add_17 : decode cL_add 17 = .ok (.astore 4, 2) := by decide +kernel
theorem dL_add_19 : decode cL_add 19 = .ok (.iconst 2, 1) := by decide +kernel
theorem dL_add_20 : decode cL_add 20 = .ok (.ireturn, 1) := by decide +kernel
theorem dL_add_21 : decode cL_add 21 = .ok (.iconst 0, 1) := by decide +kernel
theorem dL_add_22 : decode cL_add 22 = .ok (.ireturn, 1) := by decide +kernel
theorem dL_slip_0 : decode cL_slip 0 = .ok (.aload_n 3, 1) := by decide +kernel
theorem dL_slip_1 : decode cL_slip 1 = .ok (.iconst 0, 1) := by decide +kernel
theorem dL_slip_2 : decode cL_slip 2 = .ok (.aload_n 0, 1) := by decide +kernel
theorem dL_slip_3 : decode cL_slip 3 = .ok (.iload_n 1, 1) := by decide +kernel
theorem dL_slip_4 : decode cL_slip 4 = .ok (.iload_n 2, 1) := by decide +kernel
theorem dL_slip_5 : decode cL_slip 5 = .ok (.invokevirtual 20, 3) := by decide +kernel
theorem dL_slip_8 : decode cL_slip 8 = .ok (.i2l, 1) := by decide +kernel
theorem dL_slip_9 : decode cL_slip 9 = .ok (.lastore, 1) := by decide +kernel
theorem dL_slip_10 : decode cL_slip 10 = .ok (.goto 7, 3) := by decide +kernel
theorem dL_slip_13 : decode cL_slip 13 = .ok (.astore 4, 2) := by decide +kernel
theorem dL_slip_15 : decode cL_slip 15 = .ok (.iconst 1, 1) := by decide +kernel
theorem dL_slip_16 : decode cL_slip 16 = .ok (.ireturn, 1) := by decide +kernel
theorem dL_slip_17 : decode cL_slip 17 = .ok (.iconst 0, 1) := by decide +kernel
theorem dL_slip_18 : decode cL_slip 18 = .ok (.ireturn, 1) := by decide +kernel
theorem dL_mend_0 : decode cL_mend 0 = .ok (.aload_n 2, 1) := by decide +kernel
theorem dL_mend_1 : decode cL_mend 1 = .ok (.iconst 0, 1) := by decide +kernel
theorem dL_mend_2 : decode cL_mend 2 = .ok (.aload_n 0, 1) := by decide +kernel
theorem dL_mend_3 : decode cL_mend 3 = .ok (.iload_n 1, 1) := by decide +kernel
theorem dL_mend_4 : decode cL_mend 4 = .ok (.invokevirtual 23, 3) := by decide +kernel
theorem dL_mend_7 : decode cL_mend 7 = .ok (.i2l, 1) := by decide +kernel
theorem dL_mend_8 : decode cL_mend 8 = .ok (.lastore, 1) := by decide +kernel
theorem dL_mend_9 : decode cL_mend 9 = .ok (.goto 6, 3) := by decide +kernel
theorem dL_mend_12 : decode cL_mend 12 = .ok (.astore_n 3, 1) := by decide +kernel
theorem dL_mend_13 : decode cL_mend 13 = .ok (.iconst 1, 1) := by decide +kernel
theorem dL_mend_14 : decode cL_mend 14 = .ok (.ireturn, 1) := by decide +kernel
theorem dL_mend_15 : decode cL_mend 15 = .ok (.iconst 0, 1) := by decide +kernel
theorem dL_mend_16 : decode cL_mend 16 = .ok (.ireturn, 1) := by decide +kernel
theorem dL_renew_0 : decode cL_renew 0 = .ok (.aload_n 2, 1) := by decide +kernel
theorem dL_renew_1 : decode cL_renew 1 = .ok (.iconst 0, 1) := by decide +kernel
theorem dL_renew_2 : decode cL_renew 2 = .ok (.aload_n 0, 1) := by decide +kernel
theorem dL_renew_3 : decode cL_renew 3 = .ok (.iload_n 1, 1) := by decide +kernel
theorem dL_renew_4 : decode cL_renew 4 = .ok (.invokevirtual 27, 3) := by decide +kernel
theorem dL_renew_7 : decode cL_renew 7 = .ok (.i2l, 1) := by decide +kernel
theorem dL_renew_8 : decode cL_renew 8 = .ok (.lastore, 1) := by decide +kernel
theorem dL_renew_9 : decode cL_renew 9 = .ok (.goto 6, 3) := by decide +kernel
theorem dL_renew_12 : decode cL_renew 12 = .ok (.astore_n 3, 1) := by decide +kernel
theorem dL_renew_13 : decode cL_renew 13 = .ok (.iconst 1, 1) := by decide +kernel
theorem dL_renew_14 : decode cL_renew 14 = .ok (.ireturn, 1) := by decide +kernel
theorem dL_renew_15 : decode cL_renew 15 = .ok (.iconst 0, 1) := by decide +kernel
theorem dL_renew_16 : decode cL_renew 16 = .ok (.ireturn, 1) := by decide +kernel
theorem dL_dye_0 : decode cL_dye 0 = .ok (.aload_n 3, 1) := by decide +kernel
theorem dL_dye_1 : decode cL_dye 1 = .ok (.iconst 0, 1) := by decide +kernel
theorem dL_dye_2 : decode cL_dye 2 = .ok (.aload_n 0, 1) := by decide +kernel
theorem dL_dye_3 : decode cL_dye 3 = .ok (.iload_n 1, 1) := by decide +kernel
theorem dL_dye_4 : decode cL_dye 4 = .ok (.iload_n 2, 1) := by decide +kernel
theorem dL_dye_5 : decode cL_dye 5 = .ok (.invokevirtual 30, 3) := by decide +kernel
theorem dL_dye_8 : decode cL_dye 8 = .ok (.i2l, 1) := by decide +kernel
theorem dL_dye_9 : decode cL_dye 9 = .ok (.lastore, 1) := by decide +kernel
theorem dL_dye_10 : decode cL_dye 10 = .ok (.goto 11, 3) := by decide +kernel
theorem dL_dye_13 : decode cL_dye 13 = .ok (.astore 4, 2) := by decide +kernel
theorem dL_dye_15 : decode cL_dye 15 = .ok (.iconst 1, 1) := by decide +kernel
theorem dL_dye_16 : decode cL_dye 16 = .ok (.ireturn, 1) := by decide +kernel
theorem dL_dye_17 : decode cL_dye 17 = .ok (.astore 4, 2) := by decide +kernel
theorem dL_dye_19 : decode cL_dye 19 = .ok (.iconst 2, 1) := by decide +kernel
theorem dL_dye_20 : decode cL_dye 20 = .ok (.ireturn, 1) := by decide +kernel
theorem dL_dye_21 : decode cL_dye 21 = .ok (.iconst 0, 1) := by decide +kernel
theorem dL_dye_22 : decode cL_dye 22 = .ok (.ireturn, 1) := by decide +kernel
theorem dL_set_0 : decode cL_set 0 = .ok (.aload_n 2, 1) := by decide +kernel
theorem dL_set_1 : decode cL_set 1 = .ok (.iconst 0, 1) := by decide +kernel
theorem dL_set_2 : decode cL_set 2 = .ok (.aload_n 0, 1) := by decide +kernel
theorem dL_set_3 : decode cL_set 3 = .ok (.iload_n 1, 1) := by decide +kernel
theorem dL_set_4 : decode cL_set 4 = .ok (.invokevirtual 33, 3) := by decide +kernel
theorem dL_set_7 : decode cL_set 7 = .ok (.i2l, 1) := by decide +kernel
theorem dL_set_8 : decode cL_set 8 = .ok (.lastore, 1) := by decide +kernel
theorem dL_set_9 : decode cL_set 9 = .ok (.goto 6, 3) := by decide +kernel
theorem dL_set_12 : decode cL_set 12 = .ok (.astore_n 3, 1) := by decide +kernel
theorem dL_set_13 : decode cL_set 13 = .ok (.iconst 1, 1) := by decide +kernel
theorem dL_set_14 : decode cL_set 14 = .ok (.ireturn, 1) := by decide +kernel
theorem dL_set_15 : decode cL_set 15 = .ok (.iconst 0, 1) := by decide +kernel
theorem dL_set_16 : decode cL_set 16 = .ok (.ireturn, 1) := by decide +kernel
theorem dL_append_0 : decode cL_append 0 = .ok (.aload_n 2, 1) := by decide +kernel
theorem dL_append_1 : decode cL_append 1 = .ok (.iconst 0, 1) := by decide +kernel
theorem dL_append_2 : decode cL_append 2 = .ok (.aload_n 0, 1) := by decide +kernel
theorem dL_append_3 : decode cL_append 3 = .ok (.iload_n 1, 1) := by decide +kernel
theorem dL_append_4 : decode cL_append 4 = .ok (.invokevirtual 36, 3) := by decide +kernel
theorem dL_append_7 : decode cL_append 7 = .ok (.i2l, 1) := by decide +kernel
theorem dL_append_8 : decode cL_append 8 = .ok (.lastore, 1) := by decide +kernel
theorem dL_append_9 : decode cL_append 9 = .ok (.goto 9, 3) := by decide +kernel
theorem dL_append_12 : decode cL_append 12 = .ok (.astore_n 3, 1) := by decide +kernel
theorem dL_append_13 : decode cL_append 13 = .ok (.iconst 1, 1) := by decide +kernel
theorem dL_append_14 : decode cL_append 14 = .ok (.ireturn, 1) := by decide +kernel
theorem dL_append_15 : decode cL_append 15 = .ok (.astore_n 3, 1) := by decide +kernel
theorem dL_append_16 : decode cL_append 16 = .ok (.iconst 2, 1) := by decide +kernel
theorem dL_append_17 : decode cL_append 17 = .ok (.ireturn, 1) := by decide +kernel
theorem dL_append_18 : decode cL_append 18 = .ok (.iconst 0, 1) := by decide +kernel
theorem dL_append_19 : decode cL_append 19 = .ok (.ireturn, 1) := by decide +kernel
theorem dL_run_0 : decode cL_run 0 = .ok (.aload_n 1, 1) := by decide +kernel
theorem dL_run_1 : decode cL_run 1 = .ok (.iconst 0, 1) := by decide +kernel
theorem dL_run_2 : decode cL_run 2 = .ok (.aload_n 0, 1) := by decide +kernel
theorem dL_run_3 : decode cL_run 3 = .ok (.invokevirtual 41, 3) := by decide +kernel
theorem dL_run_6 : decode cL_run 6 = .ok (.i2l, 1) := by decide +kernel
theorem dL_run_7 : decode cL_run 7 = .ok (.lastore, 1) := by decide +kernel
theorem dL_run_8 : decode cL_run 8 = .ok (.goto 6, 3) := by decide +kernel
theorem dL_run_11 : decode cL_run 11 = .ok (.astore_n 2, 1) := by decide +kernel
theorem dL_run_12 : decode cL_run 12 = .ok (.iconst 1, 1) := by decide +kernel
theorem dL_run_13 : decode cL_run 13 = .ok (.ireturn, 1) := by decide +kernel
theorem dL_run_14 : decode cL_run 14 = .ok (.iconst 0, 1) := by decide +kernel
theorem dL_run_15 : decode cL_run 15 = .ok (.ireturn, 1) := by decide +kernel
theorem dL_keep_0 : decode cL_keep 0 = .ok (.aload_n 2, 1) := by decide +kernel
theorem dL_keep_1 : decode cL_keep 1 = .ok (.iconst 0, 1) := by decide +kernel
theorem dL_keep_2 : decode cL_keep 2 = .ok (.aload_n 0, 1) := by decide +kernel
theorem dL_keep_3 : decode cL_keep 3 = .ok (.iload_n 1, 1) := by decide +kernel
theorem dL_keep_4 : decode cL_keep 4 = .ok (.invokevirtual 45, 3) := by decide +kernel
theorem dL_keep_7 : decode cL_keep 7 = .ok (.i2l, 1) := by decide +kernel
theorem dL_keep_8 : decode cL_keep 8 = .ok (.lastore, 1) := by decide +kernel
theorem dL_keep_9 : decode cL_keep 9 = .ok (.goto 6, 3) := by decide +kernel
theorem dL_keep_12 : decode cL_keep 12 = .ok (.astore_n 3, 1) := by decide +kernel
theorem dL_keep_13 : decode cL_keep 13 = .ok (.iconst 1, 1) := by decide +kernel
theorem dL_keep_14 : decode cL_keep 14 = .ok (.ireturn, 1) := by decide +kernel
theorem dL_keep_15 : decode cL_keep 15 = .ok (.iconst 0, 1) := by decide +kernel
theorem dL_keep_16 : decode cL_keep 16 = .ok (.ireturn, 1) := by decide +kernel
theorem dL_goBack_0 : decode cL_goBack 0 = .ok (.aload_n 2, 1) := by decide +kernel
theorem dL_goBack_1 : decode cL_goBack 1 = .ok (.iconst 0, 1) := by decide +kernel
theorem dL_goBack_2 : decode cL_goBack 2 = .ok (.aload_n 0, 1) := by decide +kernel
theorem dL_goBack_3 : decode cL_goBack 3 = .ok (.iload_n 1, 1) := by decide +kernel
theorem dL_goBack_4 : decode cL_goBack 4 = .ok (.invokevirtual 48, 3) := by decide +kernel
theorem dL_goBack_7 : decode cL_goBack 7 = .ok (.i2l, 1) := by decide +kernel
theorem dL_goBack_8 : decode cL_goBack 8 = .ok (.lastore, 1) := by decide +kernel
theorem dL_goBack_9 : decode cL_goBack 9 = .ok (.goto 9, 3) := by decide +kernel
theorem dL_goBack_12 : decode cL_goBack 12 = .ok (.astore_n 3, 1) := by decide +kernel
theorem dL_goBack_13 : decode cL_goBack 13 = .ok (.iconst 1, 1) := by decide +kernel
theorem dL_goBack_14 : decode cL_goBack 14 = .ok (.ireturn, 1) := by decide +kernel
theorem dL_goBack_15 : decode cL_goBack 15 = .ok (.astore_n 3, 1) := by decide +kernel
theorem dL_goBack_16 : decode cL_goBack 16 = .ok (.iconst 2, 1) := by decide +kernel
theorem dL_goBack_17 : decode cL_goBack 17 = .ok (.ireturn, 1) := by decide +kernel
theorem dL_goBack_18 : decode cL_goBack 18 = .ok (.iconst 0, 1) := by decide +kernel
theorem dL_goBack_19 : decode cL_goBack 19 = .ok (.ireturn, 1) := by decide +kernel
theorem dL_undo_0 : decode cL_undo 0 = .ok (.aload_n 1, 1) := by decide +kernel
theorem dL_undo_1 : decode cL_undo 1 = .ok (.iconst 0, 1) := by decide +kernel
theorem dL_undo_2 : decode cL_undo 2 = .ok (.aload_n 0, 1) := by decide +kernel
theorem dL_undo_3 : decode cL_undo 3 = .ok (.invokevirtual 51, 3) := by decide +kernel
theorem dL_undo_6 : decode cL_undo 6 = .ok (.i2l, 1) := by decide +kernel
theorem dL_undo_7 : decode cL_undo 7 = .ok (.lastore, 1) := by decide +kernel
theorem dL_undo_8 : decode cL_undo 8 = .ok (.goto 6, 3) := by decide +kernel
theorem dL_undo_11 : decode cL_undo 11 = .ok (.astore_n 2, 1) := by decide +kernel
theorem dL_undo_12 : decode cL_undo 12 = .ok (.iconst 1, 1) := by decide +kernel
theorem dL_undo_13 : decode cL_undo 13 = .ok (.ireturn, 1) := by decide +kernel
theorem dL_undo_14 : decode cL_undo 14 = .ok (.iconst 0, 1) := by decide +kernel
theorem dL_undo_15 : decode cL_undo 15 = .ok (.ireturn, 1) := by decide +kernel
theorem dL_cordOf_0 : decode cL_cordOf 0 = .ok (.aload_n 3, 1) := by decide +kernel
theorem dL_cordOf_1 : decode cL_cordOf 1 = .ok (.iconst 0, 1) := by decide +kernel
theorem dL_cordOf_2 : decode cL_cordOf 2 = .ok (.aload_n 0, 1) := by decide +kernel
theorem dL_cordOf_3 : decode cL_cordOf 3 = .ok (.iload_n 1, 1) := by decide +kernel
theorem dL_cordOf_4 : decode cL_cordOf 4 = .ok (.iload_n 2, 1) := by decide +kernel
theorem dL_cordOf_5 : decode cL_cordOf 5 = .ok (.invokevirtual 54, 3) := by decide +kernel
theorem dL_cordOf_8 : decode cL_cordOf 8 = .ok (.i2l, 1) := by decide +kernel
theorem dL_cordOf_9 : decode cL_cordOf 9 = .ok (.lastore, 1) := by decide +kernel
theorem dL_cordOf_10 : decode cL_cordOf 10 = .ok (.goto 11, 3) := by decide +kernel
theorem dL_cordOf_13 : decode cL_cordOf 13 = .ok (.astore 4, 2) := by decide +kernel
theorem dL_cordOf_15 : decode cL_cordOf 15 = .ok (.iconst 1, 1) := by decide +kernel
theorem dL_cordOf_16 : decode cL_cordOf 16 = .ok (.ireturn, 1) := by decide +kernel
theorem dL_cordOf_17 : decode cL_cordOf 17 = .ok (.astore 4, 2) := by decide +kernel
theorem dL_cordOf_19 : decode cL_cordOf 19 = .ok (.iconst 2, 1) := by decide +kernel
theorem dL_cordOf_20 : decode cL_cordOf 20 = .ok (.ireturn, 1) := by decide +kernel
theorem dL_cordOf_21 : decode cL_cordOf 21 = .ok (.iconst 0, 1) := by decide +kernel
theorem dL_cordOf_22 : decode cL_cordOf 22 = .ok (.ireturn, 1) := by decide +kernel
theorem dL_placeOf_0 : decode cL_placeOf 0 = .ok (.aload 4, 2) := by decide +kernel
theorem dL_placeOf_2 : decode cL_placeOf 2 = .ok (.iconst 0, 1) := by decide +kernel
theorem dL_placeOf_3 : decode cL_placeOf 3 = .ok (.aload_n 0, 1) := by decide +kernel
theorem dL_placeOf_4 : decode cL_placeOf 4 = .ok (.iload_n 1, 1) := by decide +kernel
theorem dL_placeOf_5 : decode cL_placeOf 5 = .ok (.iload_n 2, 1) := by decide +kernel
theorem dL_placeOf_6 : decode cL_placeOf 6 = .ok (.iload_n 3, 1) := by decide +kernel
theorem dL_placeOf_7 : decode cL_placeOf 7 = .ok (.invokevirtual 57, 3) := by decide +kernel
theorem dL_placeOf_10 : decode cL_placeOf 10 = .ok (.i2l, 1) := by decide +kernel
theorem dL_placeOf_11 : decode cL_placeOf 11 = .ok (.lastore, 1) := by decide +kernel
theorem dL_placeOf_12 : decode cL_placeOf 12 = .ok (.goto 11, 3) := by decide +kernel
theorem dL_placeOf_15 : decode cL_placeOf 15 = .ok (.astore 5, 2) := by decide +kernel
theorem dL_placeOf_17 : decode cL_placeOf 17 = .ok (.iconst 1, 1) := by decide +kernel
theorem dL_placeOf_18 : decode cL_placeOf 18 = .ok (.ireturn, 1) := by decide +kernel
theorem dL_placeOf_19 : decode cL_placeOf 19 = .ok (.astore 5, 2) := by decide +kernel
theorem dL_placeOf_21 : decode cL_placeOf 21 = .ok (.iconst 2, 1) := by decide +kernel
theorem dL_placeOf_22 : decode cL_placeOf 22 = .ok (.ireturn, 1) := by decide +kernel
theorem dL_placeOf_23 : decode cL_placeOf 23 = .ok (.iconst 0, 1) := by decide +kernel
theorem dL_placeOf_24 : decode cL_placeOf 24 = .ok (.ireturn, 1) := by decide +kernel
theorem dL_part_0 : decode cL_part 0 = .ok (.aload_n 3, 1) := by decide +kernel
theorem dL_part_1 : decode cL_part 1 = .ok (.iconst 0, 1) := by decide +kernel
theorem dL_part_2 : decode cL_part 2 = .ok (.aload_n 0, 1) := by decide +kernel
theorem dL_part_3 : decode cL_part 3 = .ok (.iload_n 1, 1) := by decide +kernel
theorem dL_part_4 : decode cL_part 4 = .ok (.iload_n 2, 1) := by decide +kernel
theorem dL_part_5 : decode cL_part 5 = .ok (.invokevirtual 61, 3) := by decide +kernel
theorem dL_part_8 : decode cL_part 8 = .ok (.i2l, 1) := by decide +kernel
theorem dL_part_9 : decode cL_part 9 = .ok (.lastore, 1) := by decide +kernel
theorem dL_part_10 : decode cL_part 10 = .ok (.goto 11, 3) := by decide +kernel
theorem dL_part_13 : decode cL_part 13 = .ok (.astore 4, 2) := by decide +kernel
theorem dL_part_15 : decode cL_part 15 = .ok (.iconst 1, 1) := by decide +kernel
theorem dL_part_16 : decode cL_part 16 = .ok (.ireturn, 1) := by decide +kernel
theorem dL_part_17 : decode cL_part 17 = .ok (.astore 4, 2) := by decide +kernel
theorem dL_part_19 : decode cL_part 19 = .ok (.iconst 2, 1) := by decide +kernel
theorem dL_part_20 : decode cL_part 20 = .ok (.ireturn, 1) := by decide +kernel
theorem dL_part_21 : decode cL_part 21 = .ok (.iconst 0, 1) := by decide +kernel
theorem dL_part_22 : decode cL_part 22 = .ok (.ireturn, 1) := by decide +kernel
theorem dL_count_0 : decode cL_count 0 = .ok (.aload_n 2, 1) := by decide +kernel
theorem dL_count_1 : decode cL_count 1 = .ok (.iconst 0, 1) := by decide +kernel
theorem dL_count_2 : decode cL_count 2 = .ok (.aload_n 0, 1) := by decide +kernel
theorem dL_count_3 : decode cL_count 3 = .ok (.iload_n 1, 1) := by decide +kernel
theorem dL_count_4 : decode cL_count 4 = .ok (.invokevirtual 64, 3) := by decide +kernel
theorem dL_count_7 : decode cL_count 7 = .ok (.i2l, 1) := by decide +kernel
theorem dL_count_8 : decode cL_count 8 = .ok (.lastore, 1) := by decide +kernel
theorem dL_count_9 : decode cL_count 9 = .ok (.goto 6, 3) := by decide +kernel
theorem dL_count_12 : decode cL_count 12 = .ok (.astore_n 3, 1) := by decide +kernel
theorem dL_count_13 : decode cL_count 13 = .ok (.iconst 1, 1) := by decide +kernel
theorem dL_count_14 : decode cL_count 14 = .ok (.ireturn, 1) := by decide +kernel
theorem dL_count_15 : decode cL_count 15 = .ok (.iconst 0, 1) := by decide +kernel
theorem dL_count_16 : decode cL_count 16 = .ok (.ireturn, 1) := by decide +kernel
theorem dL_byHue_0 : decode cL_byHue 0 = .ok (.aload_n 2, 1) := by decide +kernel
theorem dL_byHue_1 : decode cL_byHue 1 = .ok (.iconst 0, 1) := by decide +kernel
theorem dL_byHue_2 : decode cL_byHue 2 = .ok (.aload_n 0, 1) := by decide +kernel
theorem dL_byHue_3 : decode cL_byHue 3 = .ok (.iload_n 1, 1) := by decide +kernel
theorem dL_byHue_4 : decode cL_byHue 4 = .ok (.invokevirtual 67, 3) := by decide +kernel
theorem dL_byHue_7 : decode cL_byHue 7 = .ok (.i2l, 1) := by decide +kernel
theorem dL_byHue_8 : decode cL_byHue 8 = .ok (.lastore, 1) := by decide +kernel
theorem dL_byHue_9 : decode cL_byHue 9 = .ok (.goto 6, 3) := by decide +kernel
theorem dL_byHue_12 : decode cL_byHue 12 = .ok (.astore_n 3, 1) := by decide +kernel
theorem dL_byHue_13 : decode cL_byHue 13 = .ok (.iconst 1, 1) := by decide +kernel
theorem dL_byHue_14 : decode cL_byHue 14 = .ok (.ireturn, 1) := by decide +kernel
theorem dL_byHue_15 : decode cL_byHue 15 = .ok (.iconst 0, 1) := by decide +kernel
theorem dL_byHue_16 : decode cL_byHue 16 = .ok (.ireturn, 1) := by decide +kernel
theorem dL_whyNot_0 : decode cL_whyNot 0 = .ok (.aload_n 3, 1) := by decide +kernel
theorem dL_whyNot_1 : decode cL_whyNot 1 = .ok (.iconst 0, 1) := by decide +kernel
theorem dL_whyNot_2 : decode cL_whyNot 2 = .ok (.aload_n 0, 1) := by decide +kernel
theorem dL_whyNot_3 : decode cL_whyNot 3 = .ok (.iload_n 1, 1) := by decide +kernel
theorem dL_whyNot_4 : decode cL_whyNot 4 = .ok (.iload_n 2, 1) := by decide +kernel
theorem dL_whyNot_5 : decode cL_whyNot 5 = .ok (.invokevirtual 70, 3) := by decide +kernel
theorem dL_whyNot_8 : decode cL_whyNot 8 = .ok (.i2l, 1) := by decide +kernel
theorem dL_whyNot_9 : decode cL_whyNot 9 = .ok (.lastore, 1) := by decide +kernel
theorem dL_whyNot_10 : decode cL_whyNot 10 = .ok (.goto 11, 3) := by decide +kernel
theorem dL_whyNot_13 : decode cL_whyNot 13 = .ok (.astore 4, 2) := by decide +kernel
theorem dL_whyNot_15 : decode cL_whyNot 15 = .ok (.iconst 1, 1) := by decide +kernel
theorem dL_whyNot_16 : decode cL_whyNot 16 = .ok (.ireturn, 1) := by decide +kernel
theorem dL_whyNot_17 : decode cL_whyNot 17 = .ok (.astore 4, 2) := by decide +kernel
theorem dL_whyNot_19 : decode cL_whyNot 19 = .ok (.iconst 2, 1) := by decide +kernel
theorem dL_whyNot_20 : decode cL_whyNot 20 = .ok (.ireturn, 1) := by decide +kernel
theorem dL_whyNot_21 : decode cL_whyNot 21 = .ok (.iconst 0, 1) := by decide +kernel
theorem dL_whyNot_22 : decode cL_whyNot 22 = .ok (.ireturn, 1) := by decide +kernel
theorem dL_howOften_0 : decode cL_howOften 0 = .ok (.aload_n 3, 1) := by decide +kernel
theorem dL_howOften_1 : decode cL_howOften 1 = .ok (.iconst 0, 1) := by decide +kernel
theorem dL_howOften_2 : decode cL_howOften 2 = .ok (.aload_n 0, 1) := by decide +kernel
theorem dL_howOften_3 : decode cL_howOften 3 = .ok (.iload_n 1, 1) := by decide +kernel
theorem dL_howOften_4 : decode cL_howOften 4 = .ok (.iload_n 2, 1) := by decide +kernel
theorem dL_howOften_5 : decode cL_howOften 5 = .ok (.invokevirtual 73, 3) := by decide +kernel
theorem dL_howOften_8 : decode cL_howOften 8 = .ok (.i2l, 1) := by decide +kernel
theorem dL_howOften_9 : decode cL_howOften 9 = .ok (.lastore, 1) := by decide +kernel
theorem dL_howOften_10 : decode cL_howOften 10 = .ok (.goto 11, 3) := by decide +kernel
theorem dL_howOften_13 : decode cL_howOften 13 = .ok (.astore 4, 2) := by decide +kernel
theorem dL_howOften_15 : decode cL_howOften 15 = .ok (.iconst 1, 1) := by decide +kernel
theorem dL_howOften_16 : decode cL_howOften 16 = .ok (.ireturn, 1) := by decide +kernel
theorem dL_howOften_17 : decode cL_howOften 17 = .ok (.astore 4, 2) := by decide +kernel
theorem dL_howOften_19 : decode cL_howOften 19 = .ok (.iconst 2, 1) := by decide +kernel
theorem dL_howOften_20 : decode cL_howOften 20 = .ok (.ireturn, 1) := by decide +kernel
theorem dL_howOften_21 : decode cL_howOften 21 = .ok (.iconst 0, 1) := by decide +kernel
theorem dL_howOften_22 : decode cL_howOften 22 = .ok (.ireturn, 1) := by decide +kernel
theorem dL_cordsFor_0 : decode cL_cordsFor 0 = .ok (.aload_n 3, 1) := by decide +kernel
theorem dL_cordsFor_1 : decode cL_cordsFor 1 = .ok (.iconst 0, 1) := by decide +kernel
theorem dL_cordsFor_2 : decode cL_cordsFor 2 = .ok (.aload_n 0, 1) := by decide +kernel
theorem dL_cordsFor_3 : decode cL_cordsFor 3 = .ok (.iload_n 1, 1) := by decide +kernel
theorem dL_cordsFor_4 : decode cL_cordsFor 4 = .ok (.iload_n 2, 1) := by decide +kernel
theorem dL_cordsFor_5 : decode cL_cordsFor 5 = .ok (.invokevirtual 76, 3) := by decide +kernel
theorem dL_cordsFor_8 : decode cL_cordsFor 8 = .ok (.i2l, 1) := by decide +kernel
theorem dL_cordsFor_9 : decode cL_cordsFor 9 = .ok (.lastore, 1) := by decide +kernel
theorem dL_cordsFor_10 : decode cL_cordsFor 10 = .ok (.goto 7, 3) := by decide +kernel
theorem dL_cordsFor_13 : decode cL_cordsFor 13 = .ok (.astore 4, 2) := by decide +kernel
theorem dL_cordsFor_15 : decode cL_cordsFor 15 = .ok (.iconst 1, 1) := by decide +kernel
theorem dL_cordsFor_16 : decode cL_cordsFor 16 = .ok (.ireturn, 1) := by decide +kernel
theorem dL_cordsFor_17 : decode cL_cordsFor 17 = .ok (.iconst 0, 1) := by decide +kernel
theorem dL_cordsFor_18 : decode cL_cordsFor 18 = .ok (.ireturn, 1) := by decide +kernel
