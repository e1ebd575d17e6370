theorem dX1_init_0 : decode cX1_init 0 = .ok (.aload_n 0, 1) := by decide +kernel
theorem dX1_init_1 : decode cX1_init 1 = .ok (.invokespecial 3, 3) := by decide +kernel
theorem dX1_init_4 : decode cX1_init 4 = .ok (.aload_n 0, 1) := by decide +kernel
theorem dX1_init_5 : decode cX1_init 5 = .ok (.bipush 9, 2) := by decide +kernel
theorem dX1_init_7 : decode cX1_init 7 = .ok (.newarray .int, 2) := by decide +kernel
theorem dX1_init_9 : decode cX1_init 9 = .ok (.putfield 9, 3) := by decide +kernel
theorem dX1_init_12 : decode cX1_init 12 = .ok (.return_, 1) := by decide +kernel
theorem dX1_fill_0 : decode cX1_fill 0 = .ok (.aload_n 0, 1) := by decide +kernel
theorem dX1_fill_1 : decode cX1_fill 1 = .ok (.invokevirtual 15, 3) := by decide +kernel
theorem dX1_fill_4 : decode cX1_fill 4 = .ok (.iload_n 2, 1) := by decide +kernel
theorem dX1_fill_5 : decode cX1_fill 5 = .ok (.istore 4, 2) := by decide +kernel
theorem dX1_fill_7 : decode cX1_fill 7 = .ok (.iload 4, 2) := by decide +kernel
theorem dX1_fill_9 : decode cX1_fill 9 = .ok (.ifCond .lt 30, 3) := by decide +kernel
theorem dX1_fill_12 : decode cX1_fill 12 = .ok (.iload 4, 2) := by decide +kernel
theorem dX1_fill_14 : decode cX1_fill 14 = .ok (.iload_n 3, 1) := by decide +kernel
theorem dX1_fill_15 : decode cX1_fill 15 = .ok (.if_icmp .ge 24, 3) := by decide +kernel
theorem dX1_fill_18 : decode cX1_fill 18 = .ok (.iload 4, 2) := by decide +kernel
theorem dX1_fill_20 : decode cX1_fill 20 = .ok (.aload_n 1, 1) := by decide +kernel
theorem dX1_fill_21 : decode cX1_fill 21 = .ok (.arraylength, 1) := by decide +kernel
theorem dX1_fill_22 : decode cX1_fill 22 = .ok (.if_icmp .ge 17, 3) := by decide +kernel
theorem dX1_fill_25 : decode cX1_fill 25 = .ok (.aload_n 0, 1) := by decide +kernel
theorem dX1_fill_26 : decode cX1_fill 26 = .ok (.aload_n 1, 1) := by decide +kernel
theorem dX1_fill_27 : decode cX1_fill 27 = .ok (.iload 4, 2) := by decide +kernel
theorem dX1_fill_29 : decode cX1_fill 29 = .ok (.iaload, 1) := by decide +kernel
theorem dX1_fill_30 : decode cX1_fill 30 = .ok (.invokevirtual 18, 3) := by decide +kernel
theorem dX1_fill_33 : decode cX1_fill 33 = .ok (.iinc 4 1, 3) := by decide +kernel
theorem dX1_fill_36 : decode cX1_fill 36 = .ok (.goto (-29), 3) := by decide +kernel
theorem dX1_fill_39 : decode cX1_fill 39 = .ok (.return_, 1) := by decide +kernel
theorem dX1_keepFirst_0 : decode cX1_keepFirst 0 = .ok (.aload_n 0, 1) := by decide +kernel
theorem dX1_keepFirst_1 : decode cX1_keepFirst 1 = .ok (.aload_n 0, 1) := by decide +kernel
theorem dX1_keepFirst_2 : decode cX1_keepFirst 2 = .ok (.getfield 9, 3) := by decide +kernel
theorem dX1_keepFirst_5 : decode cX1_keepFirst 5 = .ok (.iconst 0, 1) := by decide +kernel
theorem dX1_keepFirst_6 : decode cX1_keepFirst 6 = .ok (.iload_n 1, 1) := by decide +kernel
theorem dX1_keepFirst_7 : decode cX1_keepFirst 7 = .ok (.invokevirtual 22, 3) := by decide +kernel
theorem dX1_keepFirst_10 : decode cX1_keepFirst 10 = .ok (.return_, 1) := by decide +kernel
theorem dX1_beginWaiting_0 : decode cX1_beginWaiting 0 = .ok (.aload_n 0, 1) := by decide +kernel
theorem dX1_beginWaiting_1 : decode cX1_beginWaiting 1 = .ok (.iload_n 1, 1) := by decide +kernel
theorem dX1_beginWaiting_2 : decode cX1_beginWaiting 2 = .ok (.putfield 26, 3) := by decide +kernel
theorem dX1_beginWaiting_5 : decode cX1_beginWaiting 5 = .ok (.aload_n 0, 1) := by decide +kernel
theorem dX1_beginWaiting_6 : decode cX1_beginWaiting 6 = .ok (.iconst 0, 1) := by decide +kernel
theorem dX1_beginWaiting_7 : decode cX1_beginWaiting 7 = .ok (.putfield 30, 3) := by decide +kernel
theorem dX1_beginWaiting_10 : decode cX1_beginWaiting 10 = .ok (.aload_n 0, 1) := by decide +kernel
theorem dX1_beginWaiting_11 : decode cX1_beginWaiting 11 = .ok (.iconst 0, 1) := by decide +kernel
theorem dX1_beginWaiting_12 : decode cX1_beginWaiting 12 = .ok (.putfield 33, 3) := by decide +kernel
theorem dX1_beginWaiting_15 : decode cX1_beginWaiting 15 = .ok (.aload_n 0, 1) := by decide +kernel
theorem dX1_beginWaiting_16 : decode cX1_beginWaiting 16 = .ok (.iconst (-1), 1) := by decide +kernel
theorem dX1_beginWaiting_17 : decode cX1_beginWaiting 17 = .ok (.putfield 36, 3) := by decide +kernel
theorem dX1_beginWaiting_20 : decode cX1_beginWaiting 20 = .ok (.aload_n 0, 1) := by decide +kernel
theorem dX1_beginWaiting_21 : decode cX1_beginWaiting 21 = .ok (.iconst (-1), 1) := by decide +kernel
theorem dX1_beginWaiting_22 : decode cX1_beginWaiting 22 = .ok (.putfield 39, 3) := by decide +kernel
theorem dX1_beginWaiting_25 : decode cX1_beginWaiting 25 = .ok (.return_, 1) := by decide +kernel
theorem dX1_lengthAtRank_0 : decode cX1_lengthAtRank 0 = .ok (.iconst 0, 1) := by decide +kernel
theorem dX1_lengthAtRank_1 : decode cX1_lengthAtRank 1 = .ok (.istore_n 2, 1) := by decide +kernel
theorem dX1_lengthAtRank_2 : decode cX1_lengthAtRank 2 = .ok (.iload_n 2, 1) := by decide +kernel
theorem dX1_lengthAtRank_3 : decode cX1_lengthAtRank 3 = .ok (.aload_n 0, 1) := by decide +kernel
theorem dX1_lengthAtRank_4 : decode cX1_lengthAtRank 4 = .ok (.getfield 42, 3) := by decide +kernel
theorem dX1_lengthAtRank_7 : decode cX1_lengthAtRank 7 = .ok (.if_icmp .ge 100, 3) := by decide +kernel
theorem dX1_lengthAtRank_10 : decode cX1_lengthAtRank 10 = .ok (.iconst 0, 1) := by decide +kernel
theorem dX1_lengthAtRank_11 : decode cX1_lengthAtRank 11 = .ok (.istore_n 3, 1) := by decide +kernel
theorem dX1_lengthAtRank_12 : decode cX1_lengthAtRank 12 = .ok (.iconst 0, 1) := by decide +kernel
theorem dX1_lengthAtRank_13 : decode cX1_lengthAtRank 13 = .ok (.istore 4, 2) := by decide +kernel
theorem dX1_lengthAtRank_15 : decode cX1_lengthAtRank 15 = .ok (.iconst 0, 1) := by decide +kernel
theorem dX1_lengthAtRank_16 : decode cX1_lengthAtRank 16 = .ok (.istore 5, 2) := by decide +kernel
theorem dX1_lengthAtRank_18 : decode cX1_lengthAtRank 18 = .ok (.iload 5, 2) := by decide +kernel
theorem dX1_lengthAtRank_20 : decode cX1_lengthAtRank 20 = .ok (.aload_n 0, 1) := by decide +kernel
theorem dX1_lengthAtRank_21 : decode cX1_lengthAtRank 21 = .ok (.getfield 42, 3) := by decide +kernel
theorem dX1_lengthAtRank_24 : decode cX1_lengthAtRank 24 = .ok (.if_icmp .ge 59, 3) := by decide +kernel
theorem dX1_lengthAtRank_27 : decode cX1_lengthAtRank 27 = .ok (.iload_n 3, 1) := by decide +kernel
theorem dX1_lengthAtRank_28 : decode cX1_lengthAtRank 28 = .ok (.aload_n 0, 1) := by decide +kernel
theorem dX1_lengthAtRank_29 : decode cX1_lengthAtRank 29 = .ok (.getfield 9, 3) := by decide +kernel
theorem dX1_lengthAtRank_32 : decode cX1_lengthAtRank 32 = .ok (.iload 5, 2) := by decide +kernel
theorem dX1_lengthAtRank_34 : decode cX1_lengthAtRank 34 = .ok (.iaload, 1) := by decide +kernel
theorem dX1_lengthAtRank_35 : decode cX1_lengthAtRank 35 = .ok (.aload_n 0, 1) := by decide +kernel
theorem dX1_lengthAtRank_36 : decode cX1_lengthAtRank 36 = .ok (.getfield 9, 3) := by decide +kernel
theorem dX1_lengthAtRank_39 : decode cX1_lengthAtRank 39 = .ok (.iload_n 2, 1) := by decide +kernel
theorem dX1_lengthAtRank_40 : decode cX1_lengthAtRank 40 = .ok (.iaload, 1) := by decide +kernel
theorem dX1_lengthAtRank_41 : decode cX1_lengthAtRank 41 = .ok (.if_icmp .ge 7, 3) := by decide +kernel
theorem dX1_lengthAtRank_44 : decode cX1_lengthAtRank 44 = .ok (.iconst 1, 1) := by decide +kernel
theorem dX1_lengthAtRank_45 : decode cX1_lengthAtRank 45 = .ok (.goto 4, 3) := by decide +kernel
theorem dX1_lengthAtRank_48 : decode cX1_lengthAtRank 48 = .ok (.iconst 0, 1) := by decide +kernel
theorem dX1_lengthAtRank_49 : decode cX1_lengthAtRank 49 = .ok (.iadd, 1) := by decide +kernel
theorem dX1_lengthAtRank_50 : decode cX1_lengthAtRank 50 = .ok (.istore_n 3, 1) := by decide +kernel
theorem dX1_lengthAtRank_51 : decode cX1_lengthAtRank 51 = .ok (.iload 4, 2) := by decide +kernel
theorem dX1_lengthAtRank_53 : decode cX1_lengthAtRank 53 = .ok (.aload_n 0, 1) := by decide +kernel
theorem dX1_lengthAtRank_54 : decode cX1_lengthAtRank 54 = .ok (.getfield 9, 3) := by decide +kernel
theorem dX1_lengthAtRank_57 : decode cX1_lengthAtRank 57 = .ok (.iload 5, 2) := by decide +kernel
theorem dX1_lengthAtRank_59 : decode cX1_lengthAtRank 59 = .ok (.iaload, 1) := by decide +kernel
theorem dX1_lengthAtRank_60 : decode cX1_lengthAtRank 60 = .ok (.aload_n 0, 1) := by decide +kernel
theorem dX1_lengthAtRank_61 : decode cX1_lengthAtRank 61 = .ok (.getfield 9, 3) := by decide +kernel
theorem dX1_lengthAtRank_64 : decode cX1_lengthAtRank 64 = .ok (.iload_n 2, 1) := by decide +kernel
theorem dX1_lengthAtRank_65 : decode cX1_lengthAtRank 65 = .ok (.iaload, 1) := by decide +kernel
theorem dX1_lengthAtRank_66 : decode cX1_lengthAtRank 66 = .ok (.if_icmp .gt 7, 3) := by decide +kernel
theorem dX1_lengthAtRank_69 : decode cX1_lengthAtRank 69 = .ok (.iconst 1, 1) := by decide +kernel
theorem dX1_lengthAtRank_70 : decode cX1_lengthAtRank 70 = .ok (.goto 4, 3) := by decide +kernel
theorem dX1_lengthAtRank_73 : decode cX1_lengthAtRank 73 = .ok (.iconst 0, 1) := by decide +kernel
theorem dX1_lengthAtRank_74 : decode cX1_lengthAtRank 74 = .ok (.iadd, 1) := by decide +kernel
theorem dX1_lengthAtRank_75 : decode cX1_lengthAtRank 75 = .ok (.istore 4, 2) := by decide +kernel
theorem dX1_lengthAtRank_77 : decode cX1_lengthAtRank 77 = .ok (.iinc 5 1, 3) := by decide +kernel
theorem dX1_lengthAtRank_80 : decode cX1_lengthAtRank 80 = .ok (.goto (-62), 3) := by decide +kernel
theorem dX1_lengthAtRank_83 : decode cX1_lengthAtRank 83 = .ok (.iload_n 3, 1) := by decide +kernel
theorem dX1_lengthAtRank_84 : decode cX1_lengthAtRank 84 = .ok (.iload_n 1, 1) := by decide +kernel
theorem dX1_lengthAtRank_85 : decode cX1_lengthAtRank 85 = .ok (.if_icmp .gt 16, 3) := by decide +kernel
theorem dX1_lengthAtRank_88 : decode cX1_lengthAtRank 88 = .ok (.iload_n 1, 1) := by decide +kernel
theorem dX1_lengthAtRank_89 : decode cX1_lengthAtRank 89 = .ok (.iload 4, 2) := by decide +kernel
theorem dX1_lengthAtRank_91 : decode cX1_lengthAtRank 91 = .ok (.if_icmp .ge 10, 3) := by decide +kernel
theorem dX1_lengthAtRank_94 : decode cX1_lengthAtRank 94 = .ok (.aload_n 0, 1) := by decide +kernel
theorem dX1_lengthAtRank_95 : decode cX1_lengthAtRank 95 = .ok (.getfield 9, 3) := by decide +kernel
theorem dX1_lengthAtRank_98 : decode cX1_lengthAtRank 98 = .ok (.iload_n 2, 1) := by decide +kernel
theorem dX1_lengthAtRank_99 : decode cX1_lengthAtRank 99 = .ok (.iaload, 1) := by decide +kernel
theorem dX1_lengthAtRank_100 : decode cX1_lengthAtRank 100 = .ok (.ireturn, 1) := by decide +kernel
theorem dX1_lengthAtRank_101 : decode cX1_lengthAtRank 101 = .ok (.iinc 2 1, 3) := by decide +kernel
theorem dX1_lengthAtRank_104 : decode cX1_lengthAtRank 104 = .ok (.goto (-102), 3) := by decide +kernel
theorem dX1_lengthAtRank_107 : decode cX1_lengthAtRank 107 = .ok (.iconst (-1), 1) := by decide +kernel
theorem dX1_lengthAtRank_108 : decode cX1_lengthAtRank 108 = .ok (.ireturn, 1) := by decide +kernel
theorem dX1_copyFrom_0 : decode cX1_copyFrom 0 = .ok (.aload_n 1, 1) := by decide +kernel
theorem dX1_copyFrom_1 : decode cX1_copyFrom 1 = .ok (.getfield 9, 3) := by decide +kernel
theorem dX1_copyFrom_4 : decode cX1_copyFrom 4 = .ok (.iconst 0, 1) := by decide +kernel
theorem dX1_copyFrom_5 : decode cX1_copyFrom 5 = .ok (.aload_n 0, 1) := by decide +kernel
theorem dX1_copyFrom_6 : decode cX1_copyFrom 6 = .ok (.getfield 9, 3) := by decide +kernel
theorem dX1_copyFrom_9 : decode cX1_copyFrom 9 = .ok (.iconst 0, 1) := by decide +kernel
theorem dX1_copyFrom_10 : decode cX1_copyFrom 10 = .ok (.bipush 9, 2) := by decide +kernel
theorem dX1_copyFrom_12 : decode cX1_copyFrom 12 = .ok (.invokestatic 45, 3) := by decide +kernel
theorem dX1_copyFrom_15 : decode cX1_copyFrom 15 = .ok (.aload_n 0, 1) := by decide +kernel
theorem dX1_copyFrom_16 : decode cX1_copyFrom 16 = .ok (.aload_n 1, 1) := by decide +kernel
theorem dX1_copyFrom_17 : decode cX1_copyFrom 17 = .ok (.getfield 42, 3) := by decide +kernel
theorem dX1_copyFrom_20 : decode cX1_copyFrom 20 = .ok (.putfield 42, 3) := by decide +kernel
theorem dX1_copyFrom_23 : decode cX1_copyFrom 23 = .ok (.aload_n 0, 1) := by decide +kernel
theorem dX1_copyFrom_24 : decode cX1_copyFrom 24 = .ok (.aload_n 1, 1) := by decide +kernel
theorem dX1_copyFrom_25 : decode cX1_copyFrom 25 = .ok (.getfield 51, 3) := by decide +kernel
theorem dX1_copyFrom_28 : decode cX1_copyFrom 28 = .ok (.putfield 51, 3) := by decide +kernel
theorem dX1_copyFrom_31 : decode cX1_copyFrom 31 = .ok (.aload_n 0, 1) := by decide +kernel
theorem dX1_copyFrom_32 : decode cX1_copyFrom 32 = .ok (.aload_n 1, 1) := by decide +kernel
theorem dX1_copyFrom_33 : decode cX1_copyFrom 33 = .ok (.getfield 54, 3) := by decide +kernel
theorem dX1_copyFrom_36 : decode cX1_copyFrom 36 = .ok (.putfield 54, 3) := by decide +kernel
theorem dX1_copyFrom_39 : decode cX1_copyFrom 39 = .ok (.aload_n 0, 1) := by decide +kernel
theorem dX1_copyFrom_40 : decode cX1_copyFrom 40 = .ok (.aload_n 1, 1) := by decide +kernel
theorem dX1_copyFrom_41 : decode cX1_copyFrom 41 = .ok (.getfield 57, 3) := by decide +kernel
theorem dX1_copyFrom_44 : decode cX1_copyFrom 44 = .ok (.putfield 57, 3) := by decide +kernel
theorem dX1_copyFrom_47 : decode cX1_copyFrom 47 = .ok (.aload_n 0, 1) := by decide +kernel
theorem dX1_copyFrom_48 : decode cX1_copyFrom 48 = .ok (.aload_n 1, 1) := by decide +kernel
theorem dX1_copyFrom_49 : decode cX1_copyFrom 49 = .ok (.getfield 26, 3) := by decide +kernel
theorem dX1_copyFrom_52 : decode cX1_copyFrom 52 = .ok (.putfield 26, 3) := by decide +kernel
theorem dX1_copyFrom_55 : decode cX1_copyFrom 55 = .ok (.aload_n 0, 1) := by decide +kernel
theorem dX1_copyFrom_56 : decode cX1_copyFrom 56 = .ok (.aload_n 1, 1) := by decide +kernel
theorem dX1_copyFrom_57 : decode cX1_copyFrom 57 = .ok (.getfield 30, 3) := by decide +kernel
theorem dX1_copyFrom_60 : decode cX1_copyFrom 60 = .ok (.putfield 30, 3) := by decide +kernel
theorem dX1_copyFrom_63 : decode cX1_copyFrom 63 = .ok (.aload_n 0, 1) := by decide +kernel
theorem dX1_copyFrom_64 : decode cX1_copyFrom 64 = .ok (.aload_n 1, 1) := by decide +kernel
theorem dX1_copyFrom_65 : decode cX1_copyFrom 65 = .ok (.getfield 33, 3) := by decide +kernel
theorem dX1_copyFrom_68 : decode cX1_copyFrom 68 = .ok (.putfield 33, 3) := by decide +kernel
theorem dX1_copyFrom_71 : decode cX1_copyFrom 71 = .ok (.aload_n 0, 1) := by decide +kernel
theorem dX1_copyFrom_72 : decode cX1_copyFrom 72 = .ok (.aload_n 1, 1) := by decide +kernel
theorem dX1_copyFrom_73 : decode cX1_copyFrom 73 = .ok (.getfield 36, 3) := by decide +kernel
theorem dX1_copyFrom_76 : decode cX1_copyFrom 76 = .ok (.putfield 36, 3) := by decide +kernel
theorem dX1_copyFrom_79 : decode cX1_copyFrom 79 = .ok (.aload_n 0, 1) := by decide +kernel
theorem dX1_copyFrom_80 : decode cX1_copyFrom 80 = .ok (.aload_n 1, 1) := by decide +kernel
theorem dX1_copyFrom_81 : decode cX1_copyFrom 81 = .ok (.getfield 39, 3) := by decide +kernel
theorem dX1_copyFrom_84 : decode cX1_copyFrom 84 = .ok (.putfield 39, 3) := by decide +kernel
theorem dX1_copyFrom_87 : decode cX1_copyFrom 87 = .ok (.return_, 1) := by decide +kernel
theorem dX1_emptyOut_0 : decode cX1_emptyOut 0 = .ok (.aload_n 0, 1) := by decide +kernel
theorem dX1_emptyOut_1 : decode cX1_emptyOut 1 = .ok (.iconst 0, 1) := by decide +kernel
theorem dX1_emptyOut_2 : decode cX1_emptyOut 2 = .ok (.putfield 42, 3) := by decide +kernel
theorem dX1_emptyOut_5 : decode cX1_emptyOut 5 = .ok (.aload_n 0, 1) := by decide +kernel
theorem dX1_emptyOut_6 : decode cX1_emptyOut 6 = .ok (.iconst 0, 1) := by decide +kernel
theorem dX1_emptyOut_7 : decode cX1_emptyOut 7 = .ok (.putfield 51, 3) := by decide +kernel
theorem dX1_emptyOut_10 : decode cX1_emptyOut 10 = .ok (.aload_n 0, 1) := by decide +kernel
theorem dX1_emptyOut_11 : decode cX1_emptyOut 11 = .ok (.iconst 0, 1) := by decide +kernel
theorem dX1_emptyOut_12 : decode cX1_emptyOut 12 = .ok (.putfield 54, 3) := by decide +kernel
theorem dX1_emptyOut_15 : decode cX1_emptyOut 15 = .ok (.aload_n 0, 1) := by decide +kernel
theorem dX1_emptyOut_16 : decode cX1_emptyOut 16 = .ok (.iconst 0, 1) := by decide +kernel
theorem dX1_emptyOut_17 : decode cX1_emptyOut 17 = .ok (.putfield 57, 3) := by decide +kernel
theorem dX1_emptyOut_20 : decode cX1_emptyOut 20 = .ok (.return_, 1) := by decide +kernel
theorem dX1_addEel_0 : decode cX1_addEel 0 = .ok (.aload_n 0, 1) := by decide +kernel
theorem dX1_addEel_1 : decode cX1_addEel 1 = .ok (.getfield 42, 3) := by decide +kernel
theorem dX1_addEel_4 : decode cX1_addEel 4 = .ok (.bipush 9, 2) := by decide +kernel
theorem dX1_addEel_6 : decode cX1_addEel 6 = .ok (.if_icmp .lt 4, 3) := by decide +kernel
theorem dX1_addEel_9 : decode cX1_addEel 9 = .ok (.return_, 1) := by decide +kernel
theorem dX1_addEel_10 : decode cX1_addEel 10 = .ok (.aload_n 0, 1) := by decide +kernel
theorem dX1_addEel_11 : decode cX1_addEel 11 = .ok (.getfield 9, 3) := by decide +kernel
theorem dX1_addEel_14 : decode cX1_addEel 14 = .ok (.aload_n 0, 1) := by decide +kernel
theorem dX1_addEel_15 : decode cX1_addEel 15 = .ok (.getfield 42, 3) := by decide +kernel
theorem dX1_addEel_18 : decode cX1_addEel 18 = .ok (.iload_n 1, 1) := by decide +kernel
theorem dX1_addEel_19 : decode cX1_addEel 19 = .ok (.iastore, 1) := by decide +kernel
theorem dX1_addEel_20 : decode cX1_addEel 20 = .ok (.aload_n 0, 1) := by decide +kernel
theorem dX1_addEel_21 : decode cX1_addEel 21 = .ok (.dup, 1) := by decide +kernel
theorem dX1_addEel_22 : decode cX1_addEel 22 = .ok (.getfield 42, 3) := by decide +kernel
theorem dX1_addEel_25 : decode cX1_addEel 25 = .ok (.iconst 1, 1) := by decide +kernel
theorem dX1_addEel_26 : decode cX1_addEel 26 = .ok (.iadd, 1) := by decide +kernel
theorem dX1_addEel_27 : decode cX1_addEel 27 = .ok (.putfield 42, 3) := by decide +kernel
theorem dX1_addEel_30 : decode cX1_addEel 30 = .ok (.aload_n 0, 1) := by decide +kernel
theorem dX1_addEel_31 : decode cX1_addEel 31 = .ok (.dup, 1) := by decide +kernel
theorem dX1_addEel_32 : decode cX1_addEel 32 = .ok (.getfield 51, 3) := by decide +kernel
theorem dX1_addEel_35 : decode cX1_addEel 35 = .ok (.iload_n 1, 1) := by decide +kernel
theorem dX1_addEel_36 : decode cX1_addEel 36 = .ok (.iadd, 1) := by decide +kernel
theorem dX1_addEel_37 : decode cX1_addEel 37 = .ok (.putfield 51, 3) := by decide +kernel
theorem dX1_addEel_40 : decode cX1_addEel 40 = .ok (.aload_n 0, 1) := by decide +kernel
theorem dX1_addEel_41 : decode cX1_addEel 41 = .ok (.aload_n 0, 1) := by decide +kernel
theorem dX1_addEel_42 : decode cX1_addEel 42 = .ok (.getfield 54, 3) := by decide +kernel
theorem dX1_addEel_45 : decode cX1_addEel 45 = .ok (.iload_n 1, 1) := by decide +kernel
theorem dX1_addEel_46 : decode cX1_addEel 46 = .ok (.invokestatic 60, 3) := by decide +kernel
theorem dX1_addEel_49 : decode cX1_addEel 49 = .ok (.putfield 54, 3) := by decide +kernel
theorem dX1_addEel_52 : decode cX1_addEel 52 = .ok (.aload_n 0, 1) := by decide +kernel
theorem dX1_addEel_53 : decode cX1_addEel 53 = .ok (.dup, 1) := by decide +kernel
theorem dX1_addEel_54 : decode cX1_addEel 54 = .ok (.getfield 57, 3) := by decide +kernel
theorem dX1_addEel_57 : decode cX1_addEel 57 = .ok (.iload_n 1, 1) := by decide +kernel
theorem dX1_addEel_58 : decode cX1_addEel 58 = .ok (.bipush 60, 2) := by decide +kernel
theorem dX1_addEel_60 : decode cX1_addEel 60 = .ok (.if_icmp .lt 7, 3) := by decide +kernel
theorem dX1_addEel_63 : decode cX1_addEel 63 = .ok (.iconst 1, 1) := by decide +kernel
theorem dX1_addEel_64 : decode cX1_addEel 64 = .ok (.goto 4, 3) := by decide +kernel
theorem dX1_addEel_67 : decode cX1_addEel 67 = .ok (.iconst 0, 1) := by decide +kernel
theorem dX1_addEel_68 : decode cX1_addEel 68 = .ok (.iadd, 1) := by decide +kernel
theorem dX1_addEel_69 : decode cX1_addEel 69 = .ok (.putfield 57, 3) := by decide +kernel
theorem dX1_addEel_72 : decode cX1_addEel 72 = .ok (.return_, 1) := by decide +kernel
theorem dX2_init_0 : decode cX2_init 0 = .ok (.aload_n 0, 1) := by decide +kernel
theorem dX2_init_1 : decode cX2_init 1 = .ok (.invokespecial 1, 3) := by decide +kernel
theorem dX2_init_4 : decode cX2_init 4 = .ok (.return_, 1) := by decide +kernel
theorem dX2_begin_0 : decode cX2_begin 0 = .ok (.aload_n 0, 1) := by decide +kernel
theorem dX2_begin_1 : decode cX2_begin 1 = .ok (.iload_n 1, 1) := by decide +kernel
theorem dX2_begin_2 : decode cX2_begin 2 = .ok (.putfield 7, 3) := by decide +kernel
theorem dX2_begin_5 : decode cX2_begin 5 = .ok (.aload_n 0, 1) := by decide +kernel
theorem dX2_begin_6 : decode cX2_begin 6 = .ok (.iload_n 2, 1) := by decide +kernel
theorem dX2_begin_7 : decode cX2_begin 7 = .ok (.putfield 13, 3) := by decide +kernel
theorem dX2_begin_10 : decode cX2_begin 10 = .ok (.aload_n 0, 1) := by decide +kernel
theorem dX2_begin_11 : decode cX2_begin 11 = .ok (.iload_n 3, 1) := by decide +kernel
theorem dX2_begin_12 : decode cX2_begin 12 = .ok (.putfield 16, 3) := by decide +kernel
theorem dX2_begin_15 : decode cX2_begin 15 = .ok (.aload_n 0, 1) := by decide +kernel
theorem dX2_begin_16 : decode cX2_begin 16 = .ok (.iconst 0, 1) := by decide +kernel
theorem dX2_begin_17 : decode cX2_begin 17 = .ok (.putfield 19, 3) := by decide +kernel
theorem dX2_begin_20 : decode cX2_begin 20 = .ok (.aload_n 0, 1) := by decide +kernel
theorem dX2_begin_21 : decode cX2_begin 21 = .ok (.iconst 0, 1) := by decide +kernel
theorem dX2_begin_22 : decode cX2_begin 22 = .ok (.putfield 22, 3) := by decide +kernel
theorem dX2_begin_25 : decode cX2_begin 25 = .ok (.return_, 1) := by decide +kernel
theorem dX2_valueOf_0 : decode cX2_valueOf 0 = .ok (.aload_n 0, 1) := by decide +kernel
theorem dX2_valueOf_1 : decode cX2_valueOf 1 = .ok (.getfield 13, 3) := by decide +kernel
theorem dX2_valueOf_4 : decode cX2_valueOf 4 = .ok (.tableswitch 97 1 4 #[32, 47, 62, 82], 32) := by decide +kernel
theorem dX2_valueOf_36 : decode cX2_valueOf 36 = .ok (.aload_n 0, 1) := by decide +kernel
theorem dX2_valueOf_37 : decode cX2_valueOf 37 = .ok (.getfield 16, 3) := by decide +kernel
theorem dX2_valueOf_40 : decode cX2_valueOf 40 = .ok (.aload_n 1, 1) := by decide +kernel
theorem dX2_valueOf_41 : decode cX2_valueOf 41 = .ok (.getfield 25, 3) := by decide +kernel
theorem dX2_valueOf_44 : decode cX2_valueOf 44 = .ok (.imul, 1) := by decide +kernel
theorem dX2_valueOf_45 : decode cX2_valueOf 45 = .ok (.i2d, 1) := by decide +kernel
theorem dX2_valueOf_46 : decode cX2_valueOf 46 = .ok (.ldc2_w 30, 3) := by decide +kernel
theorem dX2_valueOf_49 : decode cX2_valueOf 49 = .ok (.ddiv, 1) := by decide +kernel
theorem dX2_valueOf_50 : decode cX2_valueOf 50 = .ok (.dreturn, 1) := by decide +kernel
theorem dX2_valueOf_51 : decode cX2_valueOf 51 = .ok (.aload_n 0, 1) := by decide +kernel
theorem dX2_valueOf_52 : decode cX2_valueOf 52 = .ok (.getfield 16, 3) := by decide +kernel
theorem dX2_valueOf_55 : decode cX2_valueOf 55 = .ok (.aload_n 1, 1) := by decide +kernel
theorem dX2_valueOf_56 : decode cX2_valueOf 56 = .ok (.getfield 32, 3) := by decide +kernel
theorem dX2_valueOf_59 : decode cX2_valueOf 59 = .ok (.imul, 1) := by decide +kernel
theorem dX2_valueOf_60 : decode cX2_valueOf 60 = .ok (.i2d, 1) := by decide +kernel
theorem dX2_valueOf_61 : decode cX2_valueOf 61 = .ok (.ldc2_w 35, 3) := by decide +kernel
theorem dX2_valueOf_64 : decode cX2_valueOf 64 = .ok (.ddiv, 1) := by decide +kernel
theorem dX2_valueOf_65 : decode cX2_valueOf 65 = .ok (.dreturn, 1) := by decide +kernel
theorem dX2_valueOf_66 : decode cX2_valueOf 66 = .ok (.aload_n 0, 1) := by decide +kernel
theorem dX2_valueOf_67 : decode cX2_valueOf 67 = .ok (.getfield 16, 3) := by decide +kernel
theorem dX2_valueOf_70 : decode cX2_valueOf 70 = .ok (.aload_n 1, 1) := by decide +kernel
theorem dX2_valueOf_71 : decode cX2_valueOf 71 = .ok (.getfield 37, 3) := by decide +kernel
theorem dX2_valueOf_74 : decode cX2_valueOf 74 = .ok (.imul, 1) := by decide +kernel
theorem dX2_valueOf_75 : decode cX2_valueOf 75 = .ok (.aload_n 1, 1) := by decide +kernel
theorem dX2_valueOf_76 : decode cX2_valueOf 76 = .ok (.getfield 32, 3) := by decide +kernel
theorem dX2_valueOf_79 : decode cX2_valueOf 79 = .ok (.imul, 1) := by decide +kernel
theorem dX2_valueOf_80 : decode cX2_valueOf 80 = .ok (.i2d, 1) := by decide +kernel
theorem dX2_valueOf_81 : decode cX2_valueOf 81 = .ok (.ldc2_w 30, 3) := by decide +kernel
theorem dX2_valueOf_84 : decode cX2_valueOf 84 = .ok (.ddiv, 1) := by decide +kernel
theorem dX2_valueOf_85 : decode cX2_valueOf 85 = .ok (.dreturn, 1) := by decide +kernel
theorem dX2_valueOf_86 : decode cX2_valueOf 86 = .ok (.aload_n 0, 1) := by decide +kernel
theorem dX2_valueOf_87 : decode cX2_valueOf 87 = .ok (.getfield 16, 3) := by decide +kernel
theorem dX2_valueOf_90 : decode cX2_valueOf 90 = .ok (.aload_n 1, 1) := by decide +kernel
theorem dX2_valueOf_91 : decode cX2_valueOf 91 = .ok (.getfield 40, 3) := by decide +kernel
theorem dX2_valueOf_94 : decode cX2_valueOf 94 = .ok (.imul, 1) := by decide +kernel
theorem dX2_valueOf_95 : decode cX2_valueOf 95 = .ok (.i2d, 1) := by decide +kernel
theorem dX2_valueOf_96 : decode cX2_valueOf 96 = .ok (.ldc2_w 43, 3) := by decide +kernel
theorem dX2_valueOf_99 : decode cX2_valueOf 99 = .ok (.ddiv, 1) := by decide +kernel
theorem dX2_valueOf_100 : decode cX2_valueOf 100 = .ok (.dreturn, 1) := by decide +kernel
theorem dX2_valueOf_101 : decode cX2_valueOf 101 = .ok (.dconst 0, 1) := by decide +kernel
theorem dX2_valueOf_102 : decode cX2_valueOf 102 = .ok (.dreturn, 1) := by decide +kernel
theorem dX2_copyFrom_0 : decode cX2_copyFrom 0 = .ok (.aload_n 0, 1) := by decide +kernel
theorem dX2_copyFrom_1 : decode cX2_copyFrom 1 = .ok (.aload_n 1, 1) := by decide +kernel
theorem dX2_copyFrom_2 : decode cX2_copyFrom 2 = .ok (.getfield 7, 3) := by decide +kernel
theorem dX2_copyFrom_5 : decode cX2_copyFrom 5 = .ok (.putfield 7, 3) := by decide +kernel
theorem dX2_copyFrom_8 : decode cX2_copyFrom 8 = .ok (.aload_n 0, 1) := by decide +kernel
theorem dX2_copyFrom_9 : decode cX2_copyFrom 9 = .ok (.aload_n 1, 1) := by decide +kernel
theorem dX2_copyFrom_10 : decode cX2_copyFrom 10 = .ok (.getfield 13, 3) := by decide +kernel
theorem dX2_copyFrom_13 : decode cX2_copyFrom 13 = .ok (.putfield 13, 3) := by decide +kernel
theorem dX2_copyFrom_16 : decode cX2_copyFrom 16 = .ok (.aload_n 0, 1) := by decide +kernel
theorem dX2_copyFrom_17 : decode cX2_copyFrom 17 = .ok (.aload_n 1, 1) := by decide +kernel
theorem dX2_copyFrom_18 : decode cX2_copyFrom 18 = .ok (.getfield 16, 3) := by decide +kernel
theorem dX2_copyFrom_21 : decode cX2_copyFrom 21 = .ok (.putfield 16, 3) := by decide +kernel
theorem dX2_copyFrom_24 : decode cX2_copyFrom 24 = .ok (.aload_n 0, 1) := by decide +kernel
theorem dX2_copyFrom_25 : decode cX2_copyFrom 25 = .ok (.aload_n 1, 1) := by decide +kernel
theorem dX2_copyFrom_26 : decode cX2_copyFrom 26 = .ok (.getfield 19, 3) := by decide +kernel
theorem dX2_copyFrom_29 : decode cX2_copyFrom 29 = .ok (.putfield 19, 3) := by decide +kernel
theorem dX2_copyFrom_32 : decode cX2_copyFrom 32 = .ok (.aload_n 0, 1) := by decide +kernel
theorem dX2_copyFrom_33 : decode cX2_copyFrom 33 = .ok (.aload_n 1, 1) := by decide +kernel
theorem dX2_copyFrom_34 : decode cX2_copyFrom 34 = .ok (.getfield 22, 3) := by decide +kernel
theorem dX2_copyFrom_37 : decode cX2_copyFrom 37 = .ok (.putfield 22, 3) := by decide +kernel
theorem dX2_copyFrom_40 : decode cX2_copyFrom 40 = .ok (.return_, 1) := by decide +kernel
theorem dX3_init_0 : decode cX3_init 0 = .ok (.aload_n 0, 1) := by decide +kernel
theorem dX3_init_1 : decode cX3_init 1 = .ok (.invokespecial 3, 3) := by decide +kernel
theorem dX3_init_4 : decode cX3_init 4 = .ok (.aload_n 0, 1) := by decide +kernel
theorem dX3_init_5 : decode cX3_init 5 = .ok (.getstatic 9, 3) := by decide +kernel
theorem dX3_init_8 : decode cX3_init 8 = .ok (.putfield 15, 3) := by decide +kernel
theorem dX3_init_11 : decode cX3_init 11 = .ok (.aload_n 0, 1) := by decide +kernel
theorem dX3_init_12 : decode cX3_init 12 = .ok (.bipush 9, 2) := by decide +kernel
theorem dX3_init_14 : decode cX3_init 14 = .ok (.newarray .int, 2) := by decide +kernel
theorem dX3_init_16 : decode cX3_init 16 = .ok (.putfield 20, 3) := by decide +kernel
theorem dX3_init_19 : decode cX3_init 19 = .ok (.return_, 1) := by decide +kernel
theorem dX4_init_0 : decode cX4_init 0 = .ok (.aload_n 0, 1) := by decide +kernel
theorem dX4_init_1 : decode cX4_init 1 = .ok (.invokespecial 3, 3) := by decide +kernel
theorem dX4_init_4 : decode cX4_init 4 = .ok (.aload_n 0, 1) := by decide +kernel
theorem dX4_init_5 : decode cX4_init 5 = .ok (.bipush 8, 2) := by decide +kernel
theorem dX4_init_7 : decode cX4_init 7 = .ok (.anewarray 9, 3) := by decide +kernel
theorem dX4_init_10 : decode cX4_init 10 = .ok (.putfield 11, 3) := by decide +kernel
theorem dX4_init_13 : decode cX4_init 13 = .ok (.iconst 0, 1) := by decide +kernel
theorem dX4_init_14 : decode cX4_init 14 = .ok (.istore_n 1, 1) := by decide +kernel
theorem dX4_init_15 : decode cX4_init 15 = .ok (.iload_n 1, 1) := by decide +kernel
theorem dX4_init_16 : decode cX4_init 16 = .ok (.bipush 8, 2) := by decide +kernel
theorem dX4_init_18 : decode cX4_init 18 = .ok (.if_icmp .ge 22, 3) := by decide +kernel
theorem dX4_init_21 : decode cX4_init 21 = .ok (.aload_n 0, 1) := by decide +kernel
theorem dX4_init_22 : decode cX4_init 22 = .ok (.getfield 11, 3) := by decide +kernel
theorem dX4_init_25 : decode cX4_init 25 = .ok (.iload_n 1, 1) := by decide +kernel
theorem dX4_init_26 : decode cX4_init 26 = .ok (.new 9, 3) := by decide +kernel
theorem dX4_init_29 : decode cX4_init 29 = .ok (.dup, 1) := by decide +kernel
theorem dX4_init_30 : decode cX4_init 30 = .ok (.invokespecial 17, 3) := by decide +kernel
theorem dX4_init_33 : decode cX4_init 33 = .ok (.aastore, 1) := by decide +kernel
theorem dX4_init_34 : decode cX4_init 34 = .ok (.iinc 1 1, 3) := by decide +kernel
theorem dX4_init_37 : decode cX4_init 37 = .ok (.goto (-22), 3) := by decide +kernel
theorem dX4_init_40 : decode cX4_init 40 = .ok (.return_, 1) := by decide +kernel
theorem dX4_remember_0 : decode cX4_remember 0 = .ok (.aload_n 0, 1) := by decide +kernel
theorem dX4_remember_1 : decode cX4_remember 1 = .ok (.getfield 11, 3) := by decide +kernel
theorem dX4_remember_4 : decode cX4_remember 4 = .ok (.aload_n 0, 1) := by decide +kernel
theorem dX4_remember_5 : decode cX4_remember 5 = .ok (.getfield 18, 3) := by decide +kernel
theorem dX4_remember_8 : decode cX4_remember 8 = .ok (.aaload, 1) := by decide +kernel
theorem dX4_remember_9 : decode cX4_remember 9 = .ok (.aload_n 1, 1) := by decide +kernel
theorem dX4_remember_10 : decode cX4_remember 10 = .ok (.invokevirtual 22, 3) := by decide +kernel
theorem dX4_remember_13 : decode cX4_remember 13 = .ok (.aload_n 0, 1) := by decide +kernel
theorem dX4_remember_14 : decode cX4_remember 14 = .ok (.aload_n 0, 1) := by decide +kernel
theorem dX4_remember_15 : decode cX4_remember 15 = .ok (.getfield 18, 3) := by decide +kernel
theorem dX4_remember_18 : decode cX4_remember 18 = .ok (.iconst 1, 1) := by decide +kernel
theorem dX4_remember_19 : decode cX4_remember 19 = .ok (.iadd, 1) := by decide +kernel
theorem dX4_remember_20 : decode cX4_remember 20 = .ok (.bipush 8, 2) := by decide +kernel
theorem dX4_remember_22 : decode cX4_remember 22 = .ok (.irem, 1) := by decide +kernel
theorem dX4_remember_23 : decode cX4_remember 23 = .ok (.putfield 18, 3) := by decide +kernel
theorem dX4_remember_26 : decode cX4_remember 26 = .ok (.aload_n 0, 1) := by decide +kernel
theorem dX4_remember_27 : decode cX4_remember 27 = .ok (.aload_n 0, 1) := by decide +kernel
theorem dX4_remember_28 : decode cX4_remember 28 = .ok (.getfield 26, 3) := by decide +kernel
theorem dX4_remember_31 : decode cX4_remember 31 = .ok (.iconst 1, 1) := by decide +kernel
theorem dX4_remember_32 : decode cX4_remember 32 = .ok (.iadd, 1) := by decide +kernel
theorem dX4_remember_33 : decode cX4_remember 33 = .ok (.bipush 8, 2) := by decide +kernel
theorem dX4_remember_35 : decode cX4_remember 35 = .ok (.invokestatic 29, 3) := by decide +kernel
theorem dX4_remember_38 : decode cX4_remember 38 = .ok (.putfield 26, 3) := by decide +kernel
theorem dX4_remember_41 : decode cX4_remember 41 = .ok (.return_, 1) := by decide +kernel
theorem dX5_init_0 : decode cX5_init 0 = .ok (.aload_n 0, 1) := by decide +kernel
theorem dX5_init_1 : decode cX5_init 1 = .ok (.invokespecial 3, 3) := by decide +kernel
theorem dX5_init_4 : decode cX5_init 4 = .ok (.aload_n 0, 1) := by decide +kernel
theorem dX5_init_5 : decode cX5_init 5 = .ok (.sipush 500, 3) := by decide +kernel
theorem dX5_init_8 : decode cX5_init 8 = .ok (.newarray .int, 2) := by decide +kernel
theorem dX5_init_10 : decode cX5_init 10 = .ok (.putfield 9, 3) := by decide +kernel
theorem dX5_init_13 : decode cX5_init 13 = .ok (.return_, 1) := by decide +kernel
theorem dX5_addFour_0 : decode cX5_addFour 0 = .ok (.bipush 24, 2) := by decide +kernel
theorem dX5_addFour_2 : decode cX5_addFour 2 = .ok (.istore_n 2, 1) := by decide +kernel
theorem dX5_addFour_3 : decode cX5_addFour 3 = .ok (.iload_n 2, 1) := by decide +kernel
theorem dX5_addFour_4 : decode cX5_addFour 4 = .ok (.ifCond .lt 20, 3) := by decide +kernel
theorem dX5_addFour_7 : decode cX5_addFour 7 = .ok (.aload_n 0, 1) := by decide +kernel
theorem dX5_addFour_8 : decode cX5_addFour 8 = .ok (.iload_n 1, 1) := by decide +kernel
theorem dX5_addFour_9 : decode cX5_addFour 9 = .ok (.iload_n 2, 1) := by decide +kernel
theorem dX5_addFour_10 : decode cX5_addFour 10 = .ok (.iushr, 1) := by decide +kernel
theorem dX5_addFour_11 : decode cX5_addFour 11 = .ok (.sipush 255, 3) := by decide +kernel
theorem dX5_addFour_14 : decode cX5_addFour 14 = .ok (.iand, 1) := by decide +kernel
theorem dX5_addFour_15 : decode cX5_addFour 15 = .ok (.invokevirtual 15, 3) := by decide +kernel
theorem dX5_addFour_18 : decode cX5_addFour 18 = .ok (.iinc 2 (-8), 3) := by decide +kernel
theorem dX5_addFour_21 : decode cX5_addFour 21 = .ok (.goto (-18), 3) := by decide +kernel
theorem dX5_addFour_24 : decode cX5_addFour 24 = .ok (.return_, 1) := by decide +kernel
theorem dX5_addSigns_0 : decode cX5_addSigns 0 = .ok (.iconst 0, 1) := by decide +kernel
theorem dX5_addSigns_1 : decode cX5_addSigns 1 = .ok (.istore_n 2, 1) := by decide +kernel
theorem dX5_addSigns_2 : decode cX5_addSigns 2 = .ok (.iload_n 2, 1) := by decide +kernel
theorem dX5_addSigns_3 : decode cX5_addSigns 3 = .ok (.aload_n 1, 1) := by decide +kernel
theorem dX5_addSigns_4 : decode cX5_addSigns 4 = .ok (.invokevirtual 19, 3) := by decide +kernel
theorem dX5_addSigns_7 : decode cX5_addSigns 7 = .ok (.if_icmp .ge 18, 3) := by decide +kernel
theorem dX5_addSigns_10 : decode cX5_addSigns 10 = .ok (.aload_n 0, 1) := by decide +kernel
theorem dX5_addSigns_11 : decode cX5_addSigns 11 = .ok (.aload_n 1, 1) := by decide +kernel
theorem dX5_addSigns_12 : decode cX5_addSigns 12 = .ok (.iload_n 2, 1) := by decide +kernel
theorem dX5_addSigns_13 : decode cX5_addSigns 13 = .ok (.invokevirtual 25, 3) := by decide +kernel
theorem dX5_addSigns_16 : decode cX5_addSigns 16 = .ok (.invokevirtual 15, 3) := by decide +kernel
theorem dX5_addSigns_19 : decode cX5_addSigns 19 = .ok (.iinc 2 1, 3) := by decide +kernel
theorem dX5_addSigns_22 : decode cX5_addSigns 22 = .ok (.goto (-20), 3) := by decide +kernel
theorem dX5_addSigns_25 : decode cX5_addSigns 25 = .ok (.return_, 1) := by decide +kernel
theorem dX5_restart_0 : decode cX5_restart 0 = .ok (.aload_n 0, 1) := by decide +kernel
theorem dX5_restart_1 : decode cX5_restart 1 = .ok (.iconst 0, 1) := by decide +kernel
theorem dX5_restart_2 : decode cX5_restart 2 = .ok (.putfield 29, 3) := by decide +kernel
theorem dX5_restart_5 : decode cX5_restart 5 = .ok (.aload_n 0, 1) := by decide +kernel
theorem dX5_restart_6 : decode cX5_restart 6 = .ok (.invokevirtual 33, 3) := by decide +kernel
theorem dX5_restart_9 : decode cX5_restart 9 = .ok (.return_, 1) := by decide +kernel
theorem dX5_advance_0 : decode cX5_advance 0 = .ok (.aload_n 0, 1) := by decide +kernel
theorem dX5_advance_1 : decode cX5_advance 1 = .ok (.aload_n 0, 1) := by decide +kernel
theorem dX5_advance_2 : decode cX5_advance 2 = .ok (.getfield 29, 3) := by decide +kernel
theorem dX5_advance_5 : decode cX5_advance 5 = .ok (.putfield 36, 3) := by decide +kernel
theorem dX5_advance_8 : decode cX5_advance 8 = .ok (.aload_n 0, 1) := by decide +kernel
theorem dX5_advance_9 : decode cX5_advance 9 = .ok (.getfield 36, 3) := by decide +kernel
theorem dX5_advance_12 : decode cX5_advance 12 = .ok (.aload_n 0, 1) := by decide +kernel
theorem dX5_advance_13 : decode cX5_advance 13 = .ok (.getfield 39, 3) := by decide +kernel
theorem dX5_advance_16 : decode cX5_advance 16 = .ok (.if_icmp .ge 30, 3) := by decide +kernel
theorem dX5_advance_19 : decode cX5_advance 19 = .ok (.aload_n 0, 1) := by decide +kernel
theorem dX5_advance_20 : decode cX5_advance 20 = .ok (.getfield 9, 3) := by decide +kernel
theorem dX5_advance_23 : decode cX5_advance 23 = .ok (.aload_n 0, 1) := by decide +kernel
theorem dX5_advance_24 : decode cX5_advance 24 = .ok (.getfield 36, 3) := by decide +kernel
theorem dX5_advance_27 : decode cX5_advance 27 = .ok (.iaload, 1) := by decide +kernel
theorem dX5_advance_28 : decode cX5_advance 28 = .ok (.bipush 32, 2) := by decide +kernel
theorem dX5_advance_30 : decode cX5_advance 30 = .ok (.if_icmp .ne 16, 3) := by decide +kernel
theorem dX5_advance_33 : decode cX5_advance 33 = .ok (.aload_n 0, 1) := by decide +kernel
theorem dX5_advance_34 : decode cX5_advance 34 = .ok (.dup, 1) := by decide +kernel
theorem dX5_advance_35 : decode cX5_advance 35 = .ok (.getfield 36, 3) := by decide +kernel
theorem dX5_advance_38 : decode cX5_advance 38 = .ok (.iconst 1, 1) := by decide +kernel
theorem dX5_advance_39 : decode cX5_advance 39 = .ok (.iadd, 1) := by decide +kernel
theorem dX5_advance_40 : decode cX5_advance 40 = .ok (.putfield 36, 3) := by decide +kernel
theorem dX5_advance_43 : decode cX5_advance 43 = .ok (.goto (-35), 3) := by decide +kernel
theorem dX5_advance_46 : decode cX5_advance 46 = .ok (.aload_n 0, 1) := by decide +kernel
theorem dX5_advance_47 : decode cX5_advance 47 = .ok (.aload_n 0, 1) := by decide +kernel
theorem dX5_advance_48 : decode cX5_advance 48 = .ok (.getfield 36, 3) := by decide +kernel
theorem dX5_advance_51 : decode cX5_advance 51 = .ok (.putfield 29, 3) := by decide +kernel
theorem dX5_advance_54 : decode cX5_advance 54 = .ok (.aload_n 0, 1) := by decide +kernel
theorem dX5_advance_55 : decode cX5_advance 55 = .ok (.aload_n 0, 1) := by decide +kernel
theorem dX5_advance_56 : decode cX5_advance 56 = .ok (.aload_n 0, 1) := by decide +kernel
theorem dX5_advance_57 : decode cX5_advance 57 = .ok (.getfield 36, 3) := by decide +kernel
theorem dX5_advance_60 : decode cX5_advance 60 = .ok (.invokevirtual 42, 3) := by decide +kernel
theorem dX5_advance_63 : decode cX5_advance 63 = .ok (.putfield 46, 3) := by decide +kernel
theorem dX5_advance_66 : decode cX5_advance 66 = .ok (.aload_n 0, 1) := by decide +kernel
theorem dX5_advance_67 : decode cX5_advance 67 = .ok (.iconst 0, 1) := by decide +kernel
theorem dX5_advance_68 : decode cX5_advance 68 = .ok (.putfield 49, 3) := by decide +kernel
theorem dX5_advance_71 : decode cX5_advance 71 = .ok (.aload_n 0, 1) := by decide +kernel
theorem dX5_advance_72 : decode cX5_advance 72 = .ok (.getfield 46, 3) := by decide +kernel
theorem dX5_advance_75 : decode cX5_advance 75 = .ok (.iconst 1, 1) := by decide +kernel
theorem dX5_advance_76 : decode cX5_advance 76 = .ok (.if_icmp .eq 11, 3) := by decide +kernel
theorem dX5_advance_79 : decode cX5_advance 79 = .ok (.aload_n 0, 1) := by decide +kernel
theorem dX5_advance_80 : decode cX5_advance 80 = .ok (.getfield 46, 3) := by decide +kernel
theorem dX5_advance_83 : decode cX5_advance 83 = .ok (.iconst 2, 1) := by decide +kernel
theorem dX5_advance_84 : decode cX5_advance 84 = .ok (.if_icmp .ne 7, 3) := by decide +kernel
theorem dX5_advance_87 : decode cX5_advance 87 = .ok (.iconst 1, 1) := by decide +kernel
theorem dX5_advance_88 : decode cX5_advance 88 = .ok (.goto 4, 3) := by decide +kernel
theorem dX5_advance_91 : decode cX5_advance 91 = .ok (.iconst 0, 1) := by decide +kernel
theorem dX5_advance_92 : decode cX5_advance 92 = .ok (.istore_n 1, 1) := by decide +kernel
theorem dX5_advance_93 : decode cX5_advance 93 = .ok (.aload_n 0, 1) := by decide +kernel
theorem dX5_advance_94 : decode cX5_advance 94 = .ok (.getfield 29, 3) := by decide +kernel
theorem dX5_advance_97 : decode cX5_advance 97 = .ok (.aload_n 0, 1) := by decide +kernel
theorem dX5_advance_98 : decode cX5_advance 98 = .ok (.getfield 39, 3) := by decide +kernel
theorem dX5_advance_101 : decode cX5_advance 101 = .ok (.if_icmp .ge 83, 3) := by decide +kernel
theorem dX5_advance_104 : decode cX5_advance 104 = .ok (.aload_n 0, 1) := by decide +kernel
theorem dX5_advance_105 : decode cX5_advance 105 = .ok (.aload_n 0, 1) := by decide +kernel
theorem dX5_advance_106 : decode cX5_advance 106 = .ok (.getfield 29, 3) := by decide +kernel
theorem dX5_advance_109 : decode cX5_advance 109 = .ok (.invokevirtual 42, 3) := by decide +kernel
theorem dX5_advance_112 : decode cX5_advance 112 = .ok (.aload_n 0, 1) := by decide +kernel
theorem dX5_advance_113 : decode cX5_advance 113 = .ok (.getfield 46, 3) := by decide +kernel
theorem dX5_advance_116 : decode cX5_advance 116 = .ok (.if_icmp .ne 68, 3) := by decide +kernel
theorem dX5_advance_119 : decode cX5_advance 119 = .ok (.iload_n 1, 1) := by decide +kernel
theorem dX5_advance_120 : decode cX5_advance 120 = .ok (.ifCond .ne 14, 3) := by decide +kernel
theorem dX5_advance_123 : decode cX5_advance 123 = .ok (.aload_n 0, 1) := by decide +kernel
theorem dX5_advance_124 : decode cX5_advance 124 = .ok (.getfield 29, 3) := by decide +kernel
theorem dX5_advance_127 : decode cX5_advance 127 = .ok (.aload_n 0, 1) := by decide +kernel
theorem dX5_advance_128 : decode cX5_advance 128 = .ok (.getfield 36, 3) := by decide +kernel
theorem dX5_advance_131 : decode cX5_advance 131 = .ok (.if_icmp .ne 53, 3) := by decide +kernel
theorem dX5_advance_134 : decode cX5_advance 134 = .ok (.aload_n 0, 1) := by decide +kernel
theorem dX5_advance_135 : decode cX5_advance 135 = .ok (.getfield 46, 3) := by decide +kernel
theorem dX5_advance_138 : decode cX5_advance 138 = .ok (.iconst 2, 1) := by decide +kernel
theorem dX5_advance_139 : decode cX5_advance 139 = .ok (.if_icmp .ne 32, 3) := by decide +kernel
theorem dX5_advance_142 : decode cX5_advance 142 = .ok (.aload_n 0, 1) := by decide +kernel
theorem dX5_advance_143 : decode cX5_advance 143 = .ok (.aload_n 0, 1) := by decide +kernel
theorem dX5_advance_144 : decode cX5_advance 144 = .ok (.getfield 49, 3) := by decide +kernel
theorem dX5_advance_147 : decode cX5_advance 147 = .ok (.bipush 10, 2) := by decide +kernel
theorem dX5_advance_149 : decode cX5_advance 149 = .ok (.imul, 1) := by decide +kernel
theorem dX5_advance_150 : decode cX5_advance 150 = .ok (.aload_n 0, 1) := by decide +kernel
theorem dX5_advance_151 : decode cX5_advance 151 = .ok (.getfield 9, 3) := by decide +kernel
theorem dX5_advance_154 : decode cX5_advance 154 = .ok (.aload_n 0, 1) := by decide +kernel
theorem dX5_advance_155 : decode cX5_advance 155 = .ok (.getfield 29, 3) := by decide +kernel
theorem dX5_advance_158 : decode cX5_advance 158 = .ok (.iaload, 1) := by decide +kernel
theorem dX5_advance_159 : decode cX5_advance 159 = .ok (.bipush 48, 2) := by decide +kernel
theorem dX5_advance_161 : decode cX5_advance 161 = .ok (.isub, 1) := by decide +kernel
theorem dX5_advance_162 : decode cX5_advance 162 = .ok (.iadd, 1) := by decide +kernel
theorem dX5_advance_163 : decode cX5_advance 163 = .ok (.ldc 52, 2) := by decide +kernel
theorem dX5_advance_165 : decode cX5_advance 165 = .ok (.invokestatic 53, 3) := by decide +kernel
theorem dX5_advance_168 : decode cX5_advance 168 = .ok (.putfield 49, 3) := by decide +kernel
theorem dX5_advance_171 : decode cX5_advance 171 = .ok (.aload_n 0, 1) := by decide +kernel
theorem dX5_advance_172 : decode cX5_advance 172 = .ok (.dup, 1) := by decide +kernel
theorem dX5_advance_173 : decode cX5_advance 173 = .ok (.getfield 29, 3) := by decide +kernel
theorem dX5_advance_176 : decode cX5_advance 176 = .ok (.iconst 1, 1) := by decide +kernel
theorem dX5_advance_177 : decode cX5_advance 177 = .ok (.iadd, 1) := by decide +kernel
theorem dX5_advance_178 : decode cX5_advance 178 = .ok (.putfield 29, 3) := by decide +kernel
theorem dX5_advance_181 : decode cX5_advance 181 = .ok (.goto (-88), 3) := by decide +kernel
theorem dX5_advance_184 : decode cX5_advance 184 = .ok (.return_, 1) := by decide +kernel
theorem dX5_isWord_0 : decode cX5_isWord 0 = .ok (.aload_n 0, 1) := by decide +kernel
theorem dX5_isWord_1 : decode cX5_isWord 1 = .ok (.getfield 46, 3) := by decide +kernel
theorem dX5_isWord_4 : decode cX5_isWord 4 = .ok (.iconst 1, 1) := by decide +kernel
theorem dX5_isWord_5 : decode cX5_isWord 5 = .ok (.if_icmp .ne 19, 3) := by decide +kernel
theorem dX5_isWord_8 : decode cX5_isWord 8 = .ok (.aload_n 0, 1) := by decide +kernel
theorem dX5_isWord_9 : decode cX5_isWord 9 = .ok (.getfield 29, 3) := by decide +kernel
theorem dX5_isWord_12 : decode cX5_isWord 12 = .ok (.aload_n 0, 1) := by decide +kernel
theorem dX5_isWord_13 : decode cX5_isWord 13 = .ok (.getfield 36, 3) := by decide +kernel
theorem dX5_isWord_16 : decode cX5_isWord 16 = .ok (.isub, 1) := by decide +kernel
theorem dX5_isWord_17 : decode cX5_isWord 17 = .ok (.aload_n 1, 1) := by decide +kernel
theorem dX5_isWord_18 : decode cX5_isWord 18 = .ok (.invokevirtual 19, 3) := by decide +kernel
theorem dX5_isWord_21 : decode cX5_isWord 21 = .ok (.if_icmp .eq 5, 3) := by decide +kernel
theorem dX5_isWord_24 : decode cX5_isWord 24 = .ok (.iconst 0, 1) := by decide +kernel
theorem dX5_isWord_25 : decode cX5_isWord 25 = .ok (.ireturn, 1) := by decide +kernel
theorem dX5_isWord_26 : decode cX5_isWord 26 = .ok (.iconst 0, 1) := by decide +kernel
theorem dX5_isWord_27 : decode cX5_isWord 27 = .ok (.istore_n 2, 1) := by decide +kernel
theorem dX5_isWord_28 : decode cX5_isWord 28 = .ok (.iload_n 2, 1) := by decide +kernel
theorem dX5_isWord_29 : decode cX5_isWord 29 = .ok (.aload_n 1, 1) := by decide +kernel
theorem dX5_isWord_30 : decode cX5_isWord 30 = .ok (.invokevirtual 19, 3) := by decide +kernel
theorem dX5_isWord_33 : decode cX5_isWord 33 = .ok (.if_icmp .ge 30, 3) := by decide +kernel
theorem dX5_isWord_36 : decode cX5_isWord 36 = .ok (.aload_n 0, 1) := by decide +kernel
theorem dX5_isWord_37 : decode cX5_isWord 37 = .ok (.getfield 9, 3) := by decide +kernel
theorem dX5_isWord_40 : decode cX5_isWord 40 = .ok (.aload_n 0, 1) := by decide +kernel
theorem dX5_isWord_41 : decode cX5_isWord 41 = .ok (.getfield 36, 3) := by decide +kernel
theorem dX5_isWord_44 : decode cX5_isWord 44 = .ok (.iload_n 2, 1) := by decide +kernel
theorem dX5_isWord_45 : decode cX5_isWord 45 = .ok (.iadd, 1) := by decide +kernel
theorem dX5_isWord_46 : decode cX5_isWord 46 = .ok (.iaload, 1) := by decide +kernel
theorem dX5_isWord_47 : decode cX5_isWord 47 = .ok (.aload_n 1, 1) := by decide +kernel
theorem dX5_isWord_48 : decode cX5_isWord 48 = .ok (.iload_n 2, 1) := by decide +kernel
theorem dX5_isWord_49 : decode cX5_isWord 49 = .ok (.invokevirtual 25, 3) := by decide +kernel
theorem dX5_isWord_52 : decode cX5_isWord 52 = .ok (.if_icmp .eq 5, 3) := by decide +kernel
theorem dX5_isWord_55 : decode cX5_isWord 55 = .ok (.iconst 0, 1) := by decide +kernel
theorem dX5_isWord_56 : decode cX5_isWord 56 = .ok (.ireturn, 1) := by decide +kernel
theorem dX5_isWord_57 : decode cX5_isWord 57 = .ok (.iinc 2 1, 3) := by decide +kernel
theorem dX5_isWord_60 : decode cX5_isWord 60 = .ok (.goto (-32), 3) := by decide +kernel
theorem dX5_isWord_63 : decode cX5_isWord 63 = .ok (.iconst 1, 1) := by decide +kernel
theorem dX5_isWord_64 : decode cX5_isWord 64 = .ok (.ireturn, 1) := by decide +kernel
theorem dX5_addByte_0 : decode cX5_addByte 0 = .ok (.aload_n 0, 1) := by decide +kernel
theorem dX5_addByte_1 : decode cX5_addByte 1 = .ok (.getfield 39, 3) := by decide +kernel
theorem dX5_addByte_4 : decode cX5_addByte 4 = .ok (.sipush 500, 3) := by decide +kernel
theorem dX5_addByte_7 : decode cX5_addByte 7 = .ok (.if_icmp .ge 23, 3) := by decide +kernel
theorem dX5_addByte_10 : decode cX5_addByte 10 = .ok (.aload_n 0, 1) := by decide +kernel
theorem dX5_addByte_11 : decode cX5_addByte 11 = .ok (.getfield 9, 3) := by decide +kernel
theorem dX5_addByte_14 : decode cX5_addByte 14 = .ok (.aload_n 0, 1) := by decide +kernel
theorem dX5_addByte_15 : decode cX5_addByte 15 = .ok (.getfield 39, 3) := by decide +kernel
theorem dX5_addByte_18 : decode cX5_addByte 18 = .ok (.iload_n 1, 1) := by decide +kernel
theorem dX5_addByte_19 : decode cX5_addByte 19 = .ok (.iastore, 1) := by decide +kernel
theorem dX5_addByte_20 : decode cX5_addByte 20 = .ok (.aload_n 0, 1) := by decide +kernel
theorem dX5_addByte_21 : decode cX5_addByte 21 = .ok (.dup, 1) := by decide +kernel
theorem dX5_addByte_22 : decode cX5_addByte 22 = .ok (.getfield 39, 3) := by decide +kernel
theorem dX5_addByte_25 : decode cX5_addByte 25 = .ok (.iconst 1, 1) := by decide +kernel
theorem dX5_addByte_26 : decode cX5_addByte 26 = .ok (.iadd, 1) := by decide +kernel
theorem dX5_addByte_27 : decode cX5_addByte 27 = .ok (.putfield 39, 3) := by decide +kernel
theorem dX5_addByte_30 : decode cX5_addByte 30 = .ok (.return_, 1) := by decide +kernel
theorem dX5_kindAt_0 : decode cX5_kindAt 0 = .ok (.iload_n 1, 1) := by decide +kernel
theorem dX5_kindAt_1 : decode cX5_kindAt 1 = .ok (.ifCond .lt 11, 3) := by decide +kernel
theorem dX5_kindAt_4 : decode cX5_kindAt 4 = .ok (.iload_n 1, 1) := by decide +kernel
theorem dX5_kindAt_5 : decode cX5_kindAt 5 = .ok (.aload_n 0, 1) := by decide +kernel
theorem dX5_kindAt_6 : decode cX5_kindAt 6 = .ok (.getfield 39, 3) := by decide +kernel
theorem dX5_kindAt_9 : decode cX5_kindAt 9 = .ok (.if_icmp .lt 5, 3) := by decide +kernel
theorem dX5_kindAt_12 : decode cX5_kindAt 12 = .ok (.iconst 0, 1) := by decide +kernel
theorem dX5_kindAt_13 : decode cX5_kindAt 13 = .ok (.ireturn, 1) := by decide +kernel
theorem dX5_kindAt_14 : decode cX5_kindAt 14 = .ok (.aload_n 0, 1) := by decide +kernel
theorem dX5_kindAt_15 : decode cX5_kindAt 15 = .ok (.getfield 9, 3) := by decide +kernel
theorem dX5_kindAt_18 : decode cX5_kindAt 18 = .ok (.iload_n 1, 1) := by decide +kernel
theorem dX5_kindAt_19 : decode cX5_kindAt 19 = .ok (.iaload, 1) := by decide +kernel
theorem dX5_kindAt_20 : decode cX5_kindAt 20 = .ok (.istore_n 2, 1) := by decide +kernel
theorem dX5_kindAt_21 : decode cX5_kindAt 21 = .ok (.iload_n 2, 1) := by decide +kernel
theorem dX5_kindAt_22 : decode cX5_kindAt 22 = .ok (.bipush 97, 2) := by decide +kernel
theorem dX5_kindAt_24 : decode cX5_kindAt 24 = .ok (.if_icmp .lt 11, 3) := by decide +kernel
theorem dX5_kindAt_27 : decode cX5_kindAt 27 = .ok (.iload_n 2, 1) := by decide +kernel
theorem dX5_kindAt_28 : decode cX5_kindAt 28 = .ok (.bipush 122, 2) := by decide +kernel
theorem dX5_kindAt_30 : decode cX5_kindAt 30 = .ok (.if_icmp .gt 5, 3) := by decide +kernel
theorem dX5_kindAt_33 : decode cX5_kindAt 33 = .ok (.iconst 1, 1) := by decide +kernel
theorem dX5_kindAt_34 : decode cX5_kindAt 34 = .ok (.ireturn, 1) := by decide +kernel
theorem dX5_kindAt_35 : decode cX5_kindAt 35 = .ok (.iload_n 2, 1) := by decide +kernel
theorem dX5_kindAt_36 : decode cX5_kindAt 36 = .ok (.bipush 48, 2) := by decide +kernel
theorem dX5_kindAt_38 : decode cX5_kindAt 38 = .ok (.if_icmp .lt 11, 3) := by decide +kernel
theorem dX5_kindAt_41 : decode cX5_kindAt 41 = .ok (.iload_n 2, 1) := by decide +kernel
theorem dX5_kindAt_42 : decode cX5_kindAt 42 = .ok (.bipush 57, 2) := by decide +kernel
theorem dX5_kindAt_44 : decode cX5_kindAt 44 = .ok (.if_icmp .gt 5, 3) := by decide +kernel
theorem dX5_kindAt_47 : decode cX5_kindAt 47 = .ok (.iconst 2, 1) := by decide +kernel
theorem dX5_kindAt_48 : decode cX5_kindAt 48 = .ok (.ireturn, 1) := by decide +kernel
theorem dX5_kindAt_49 : decode cX5_kindAt 49 = .ok (.iload_n 2, 1) := by decide +kernel
theorem dX5_kindAt_50 : decode cX5_kindAt 50 = .ok (.bipush 59, 2) := by decide +kernel
theorem dX5_kindAt_52 : decode cX5_kindAt 52 = .ok (.if_icmp .ne 7, 3) := by decide +kernel
theorem dX5_kindAt_55 : decode cX5_kindAt 55 = .ok (.iconst 3, 1) := by decide +kernel
theorem dX5_kindAt_56 : decode cX5_kindAt 56 = .ok (.goto 4, 3) := by decide +kernel
theorem dX5_kindAt_59 : decode cX5_kindAt 59 = .ok (.iconst 4, 1) := by decide +kernel
theorem dX5_kindAt_60 : decode cX5_kindAt 60 = .ok (.ireturn, 1) := by decide +kernel
theorem dX6_init_0 : decode cX6_init 0 = .ok (.aload_n 0, 1) := by decide +kernel
theorem dX6_init_1 : decode cX6_init 1 = .ok (.invokespecial 3, 3) := by decide +kernel
theorem dX6_init_4 : decode cX6_init 4 = .ok (.aload_n 0, 1) := by decide +kernel
theorem dX6_init_5 : decode cX6_init 5 = .ok (.new 9, 3) := by decide +kernel
theorem dX6_init_8 : decode cX6_init 8 = .ok (.dup, 1) := by decide +kernel
theorem dX6_init_9 : decode cX6_init 9 = .ok (.invokespecial 11, 3) := by decide +kernel
theorem dX6_init_12 : decode cX6_init 12 = .ok (.putfield 12, 3) := by decide +kernel
theorem dX6_init_15 : decode cX6_init 15 = .ok (.aload_n 0, 1) := by decide +kernel
theorem dX6_init_16 : decode cX6_init 16 = .ok (.iconst 1, 1) := by decide +kernel
theorem dX6_init_17 : decode cX6_init 17 = .ok (.putfield 18, 3) := by decide +kernel
theorem dX6_init_20 : decode cX6_init 20 = .ok (.aload_n 0, 1) := by decide +kernel
theorem dX6_init_21 : decode cX6_init 21 = .ok (.iconst 1, 1) := by decide +kernel
theorem dX6_init_22 : decode cX6_init 22 = .ok (.putfield 22, 3) := by decide +kernel
theorem dX6_init_25 : decode cX6_init 25 = .ok (.aload_n 0, 1) := by decide +kernel
theorem dX6_init_26 : decode cX6_init 26 = .ok (.bipush 6, 2) := by decide +kernel
theorem dX6_init_28 : decode cX6_init 28 = .ok (.anewarray 25, 3) := by decide +kernel
theorem dX6_init_31 : decode cX6_init 31 = .ok (.putfield 27, 3) := by decide +kernel
theorem dX6_init_34 : decode cX6_init 34 = .ok (.aload_n 0, 1) := by decide +kernel
theorem dX6_init_35 : decode cX6_init 35 = .ok (.bipush 20, 2) := by decide +kernel
theorem dX6_init_37 : decode cX6_init 37 = .ok (.anewarray 31, 3) := by decide +kernel
theorem dX6_init_40 : decode cX6_init 40 = .ok (.putfield 33, 3) := by decide +kernel
theorem dX6_init_43 : decode cX6_init 43 = .ok (.aload_n 0, 1) := by decide +kernel
theorem dX6_init_44 : decode cX6_init 44 = .ok (.bipush 20, 2) := by decide +kernel
theorem dX6_init_46 : decode cX6_init 46 = .ok (.newarray .int, 2) := by decide +kernel
theorem dX6_init_48 : decode cX6_init 48 = .ok (.putfield 37, 3) := by decide +kernel
theorem dX6_init_51 : decode cX6_init 51 = .ok (.aload_n 0, 1) := by decide +kernel
theorem dX6_init_52 : decode cX6_init 52 = .ok (.iconst (-1), 1) := by decide +kernel
theorem dX6_init_53 : decode cX6_init 53 = .ok (.putfield 41, 3) := by decide +kernel
theorem dX6_init_56 : decode cX6_init 56 = .ok (.aload_n 0, 1) := by decide +kernel
theorem dX6_init_57 : decode cX6_init 57 = .ok (.iconst (-1), 1) := by decide +kernel
theorem dX6_init_58 : decode cX6_init 58 = .ok (.putfield 44, 3) := by decide +kernel
theorem dX6_init_61 : decode cX6_init 61 = .ok (.aload_n 0, 1) := by decide +kernel
theorem dX6_init_62 : decode cX6_init 62 = .ok (.iconst (-1), 1) := by decide +kernel
theorem dX6_init_63 : decode cX6_init 63 = .ok (.putfield 47, 3) := by decide +kernel
theorem dX6_init_66 : decode cX6_init 66 = .ok (.aload_n 0, 1) := by decide +kernel
theorem dX6_init_67 : decode cX6_init 67 = .ok (.iconst (-1), 1) := by decide +kernel
theorem dX6_init_68 : decode cX6_init 68 = .ok (.putfield 50, 3) := by decide +kernel
theorem dX6_init_71 : decode cX6_init 71 = .ok (.iconst 0, 1) := by decide +kernel
theorem dX6_init_72 : decode cX6_init 72 = .ok (.istore_n 1, 1) := by decide +kernel
theorem dX6_init_73 : decode cX6_init 73 = .ok (.iload_n 1, 1) := by decide +kernel
theorem dX6_init_74 : decode cX6_init 74 = .ok (.bipush 6, 2) := by decide +kernel
theorem dX6_init_76 : decode cX6_init 76 = .ok (.if_icmp .ge 22, 3) := by decide +kernel
theorem dX6_init_79 : decode cX6_init 79 = .ok (.aload_n 0, 1) := by decide +kernel
theorem dX6_init_80 : decode cX6_init 80 = .ok (.getfield 27, 3) := by decide +kernel
theorem dX6_init_83 : decode cX6_init 83 = .ok (.iload_n 1, 1) := by decide +kernel
theorem dX6_init_84 : decode cX6_init 84 = .ok (.new 25, 3) := by decide +kernel
theorem dX6_init_87 : decode cX6_init 87 = .ok (.dup, 1) := by decide +kernel
theorem dX6_init_88 : decode cX6_init 88 = .ok (.invokespecial 53, 3) := by decide +kernel
theorem dX6_init_91 : decode cX6_init 91 = .ok (.aastore, 1) := by decide +kernel
theorem dX6_init_92 : decode cX6_init 92 = .ok (.iinc 1 1, 3) := by decide +kernel
theorem dX6_init_95 : decode cX6_init 95 = .ok (.goto (-22), 3) := by decide +kernel
theorem dX6_init_98 : decode cX6_init 98 = .ok (.iconst 0, 1) := by decide +kernel
theorem dX6_init_99 : decode cX6_init 99 = .ok (.istore_n 1, 1) := by decide +kernel
theorem dX6_init_100 : decode cX6_init 100 = .ok (.iload_n 1, 1) := by decide +kernel
theorem dX6_init_101 : decode cX6_init 101 = .ok (.bipush 20, 2) := by decide +kernel
theorem dX6_init_103 : decode cX6_init 103 = .ok (.if_icmp .ge 22, 3) := by decide +kernel
theorem dX6_init_106 : decode cX6_init 106 = .ok (.aload_n 0, 1) := by decide +kernel
theorem dX6_init_107 : decode cX6_init 107 = .ok (.getfield 33, 3) := by decide +kernel
theorem dX6_init_110 : decode cX6_init 110 = .ok (.iload_n 1, 1) := by decide +kernel
theorem dX6_init_111 : decode cX6_init 111 = .ok (.new 31, 3) := by decide +kernel
theorem dX6_init_114 : decode cX6_init 114 = .ok (.dup, 1) := by decide +kernel
theorem dX6_init_115 : decode cX6_init 115 = .ok (.invokespecial 54, 3) := by decide +kernel
theorem dX6_init_118 : decode cX6_init 118 = .ok (.aastore, 1) := by decide +kernel
theorem dX6_init_119 : decode cX6_init 119 = .ok (.iinc 1 1, 3) := by decide +kernel
theorem dX6_init_122 : decode cX6_init 122 = .ok (.goto (-22), 3) := by decide +kernel
theorem dX6_init_125 : decode cX6_init 125 = .ok (.return_, 1) := by decide +kernel
theorem dX6_copyFrom_0 : decode cX6_copyFrom 0 = .ok (.aload_n 0, 1) := by decide +kernel
theorem dX6_copyFrom_1 : decode cX6_copyFrom 1 = .ok (.getfield 12, 3) := by decide +kernel
theorem dX6_copyFrom_4 : decode cX6_copyFrom 4 = .ok (.aload_n 1, 1) := by decide +kernel
theorem dX6_copyFrom_5 : decode cX6_copyFrom 5 = .ok (.getfield 12, 3) := by decide +kernel
theorem dX6_copyFrom_8 : decode cX6_copyFrom 8 = .ok (.invokevirtual 55, 3) := by decide +kernel
theorem dX6_copyFrom_11 : decode cX6_copyFrom 11 = .ok (.aload_n 0, 1) := by decide +kernel
theorem dX6_copyFrom_12 : decode cX6_copyFrom 12 = .ok (.aload_n 1, 1) := by decide +kernel
theorem dX6_copyFrom_13 : decode cX6_copyFrom 13 = .ok (.getfield 18, 3) := by decide +kernel
theorem dX6_copyFrom_16 : decode cX6_copyFrom 16 = .ok (.putfield 18, 3) := by decide +kernel
theorem dX6_copyFrom_19 : decode cX6_copyFrom 19 = .ok (.aload_n 0, 1) := by decide +kernel
theorem dX6_copyFrom_20 : decode cX6_copyFrom 20 = .ok (.aload_n 1, 1) := by decide +kernel
theorem dX6_copyFrom_21 : decode cX6_copyFrom 21 = .ok (.getfield 22, 3) := by decide +kernel
theorem dX6_copyFrom_24 : decode cX6_copyFrom 24 = .ok (.putfield 22, 3) := by decide +kernel
theorem dX6_copyFrom_27 : decode cX6_copyFrom 27 = .ok (.aload_n 0, 1) := by decide +kernel
theorem dX6_copyFrom_28 : decode cX6_copyFrom 28 = .ok (.aload_n 1, 1) := by decide +kernel
theorem dX6_copyFrom_29 : decode cX6_copyFrom 29 = .ok (.getfield 59, 3) := by decide +kernel
theorem dX6_copyFrom_32 : decode cX6_copyFrom 32 = .ok (.putfield 59, 3) := by decide +kernel
theorem dX6_copyFrom_35 : decode cX6_copyFrom 35 = .ok (.aload_n 0, 1) := by decide +kernel
theorem dX6_copyFrom_36 : decode cX6_copyFrom 36 = .ok (.aload_n 1, 1) := by decide +kernel
theorem dX6_copyFrom_37 : decode cX6_copyFrom 37 = .ok (.getfield 62, 3) := by decide +kernel
theorem dX6_copyFrom_40 : decode cX6_copyFrom 40 = .ok (.putfield 62, 3) := by decide +kernel
theorem dX6_copyFrom_43 : decode cX6_copyFrom 43 = .ok (.aload_n 0, 1) := by decide +kernel
theorem dX6_copyFrom_44 : decode cX6_copyFrom 44 = .ok (.aload_n 1, 1) := by decide +kernel
theorem dX6_copyFrom_45 : decode cX6_copyFrom 45 = .ok (.getfield 65, 3) := by decide +kernel
theorem dX6_copyFrom_48 : decode cX6_copyFrom 48 = .ok (.putfield 65, 3) := by decide +kernel
theorem dX6_copyFrom_51 : decode cX6_copyFrom 51 = .ok (.aload_n 0, 1) := by decide +kernel
theorem dX6_copyFrom_52 : decode cX6_copyFrom 52 = .ok (.aload_n 1, 1) := by decide +kernel
theorem dX6_copyFrom_53 : decode cX6_copyFrom 53 = .ok (.getfield 68, 3) := by decide +kernel
theorem dX6_copyFrom_56 : decode cX6_copyFrom 56 = .ok (.putfield 68, 3) := by decide +kernel
theorem dX6_copyFrom_59 : decode cX6_copyFrom 59 = .ok (.aload_n 0, 1) := by decide +kernel
theorem dX6_copyFrom_60 : decode cX6_copyFrom 60 = .ok (.aload_n 1, 1) := by decide +kernel
theorem dX6_copyFrom_61 : decode cX6_copyFrom 61 = .ok (.getfield 71, 3) := by decide +kernel
theorem dX6_copyFrom_64 : decode cX6_copyFrom 64 = .ok (.putfield 71, 3) := by decide +kernel
theorem dX6_copyFrom_67 : decode cX6_copyFrom 67 = .ok (.iconst 0, 1) := by decide +kernel
theorem dX6_copyFrom_68 : decode cX6_copyFrom 68 = .ok (.istore_n 2, 1) := by decide +kernel
theorem dX6_copyFrom_69 : decode cX6_copyFrom 69 = .ok (.iload_n 2, 1) := by decide +kernel
theorem dX6_copyFrom_70 : decode cX6_copyFrom 70 = .ok (.aload_n 0, 1) := by decide +kernel
theorem dX6_copyFrom_71 : decode cX6_copyFrom 71 = .ok (.getfield 71, 3) := by decide +kernel
theorem dX6_copyFrom_74 : decode cX6_copyFrom 74 = .ok (.if_icmp .ge 24, 3) := by decide +kernel
theorem dX6_copyFrom_77 : decode cX6_copyFrom 77 = .ok (.aload_n 0, 1) := by decide +kernel
theorem dX6_copyFrom_78 : decode cX6_copyFrom 78 = .ok (.getfield 27, 3) := by decide +kernel
theorem dX6_copyFrom_81 : decode cX6_copyFrom 81 = .ok (.iload_n 2, 1) := by decide +kernel
theorem dX6_copyFrom_82 : decode cX6_copyFrom 82 = .ok (.aaload, 1) := by decide +kernel
theorem dX6_copyFrom_83 : decode cX6_copyFrom 83 = .ok (.aload_n 1, 1) := by decide +kernel
theorem dX6_copyFrom_84 : decode cX6_copyFrom 84 = .ok (.getfield 27, 3) := by decide +kernel
theorem dX6_copyFrom_87 : decode cX6_copyFrom 87 = .ok (.iload_n 2, 1) := by decide +kernel
theorem dX6_copyFrom_88 : decode cX6_copyFrom 88 = .ok (.aaload, 1) := by decide +kernel
theorem dX6_copyFrom_89 : decode cX6_copyFrom 89 = .ok (.invokevirtual 74, 3) := by decide +kernel
theorem dX6_copyFrom_92 : decode cX6_copyFrom 92 = .ok (.iinc 2 1, 3) := by decide +kernel
theorem dX6_copyFrom_95 : decode cX6_copyFrom 95 = .ok (.goto (-26), 3) := by decide +kernel
theorem dX6_copyFrom_98 : decode cX6_copyFrom 98 = .ok (.aload_n 0, 1) := by decide +kernel
theorem dX6_copyFrom_99 : decode cX6_copyFrom 99 = .ok (.aload_n 1, 1) := by decide +kernel
theorem dX6_copyFrom_100 : decode cX6_copyFrom 100 = .ok (.getfield 77, 3) := by decide +kernel
theorem dX6_copyFrom_103 : decode cX6_copyFrom 103 = .ok (.putfield 77, 3) := by decide +kernel
theorem dX6_copyFrom_106 : decode cX6_copyFrom 106 = .ok (.iconst 0, 1) := by decide +kernel
theorem dX6_copyFrom_107 : decode cX6_copyFrom 107 = .ok (.istore_n 2, 1) := by decide +kernel
theorem dX6_copyFrom_108 : decode cX6_copyFrom 108 = .ok (.iload_n 2, 1) := by decide +kernel
theorem dX6_copyFrom_109 : decode cX6_copyFrom 109 = .ok (.aload_n 0, 1) := by decide +kernel
theorem dX6_copyFrom_110 : decode cX6_copyFrom 110 = .ok (.getfield 77, 3) := by decide +kernel
theorem dX6_copyFrom_113 : decode cX6_copyFrom 113 = .ok (.if_icmp .ge 24, 3) := by decide +kernel
theorem dX6_copyFrom_116 : decode cX6_copyFrom 116 = .ok (.aload_n 0, 1) := by decide +kernel
theorem dX6_copyFrom_117 : decode cX6_copyFrom 117 = .ok (.getfield 33, 3) := by decide +kernel
theorem dX6_copyFrom_120 : decode cX6_copyFrom 120 = .ok (.iload_n 2, 1) := by decide +kernel
theorem dX6_copyFrom_121 : decode cX6_copyFrom 121 = .ok (.aaload, 1) := by decide +kernel
theorem dX6_copyFrom_122 : decode cX6_copyFrom 122 = .ok (.aload_n 1, 1) := by decide +kernel
theorem dX6_copyFrom_123 : decode cX6_copyFrom 123 = .ok (.getfield 33, 3) := by decide +kernel
theorem dX6_copyFrom_126 : decode cX6_copyFrom 126 = .ok (.iload_n 2, 1) := by decide +kernel
theorem dX6_copyFrom_127 : decode cX6_copyFrom 127 = .ok (.aaload, 1) := by decide +kernel
theorem dX6_copyFrom_128 : decode cX6_copyFrom 128 = .ok (.invokevirtual 80, 3) := by decide +kernel
theorem dX6_copyFrom_131 : decode cX6_copyFrom 131 = .ok (.iinc 2 1, 3) := by decide +kernel
theorem dX6_copyFrom_134 : decode cX6_copyFrom 134 = .ok (.goto (-26), 3) := by decide +kernel
theorem dX6_copyFrom_137 : decode cX6_copyFrom 137 = .ok (.aload_n 1, 1) := by decide +kernel
theorem dX6_copyFrom_138 : decode cX6_copyFrom 138 = .ok (.getfield 37, 3) := by decide +kernel
theorem dX6_copyFrom_141 : decode cX6_copyFrom 141 = .ok (.iconst 0, 1) := by decide +kernel
theorem dX6_copyFrom_142 : decode cX6_copyFrom 142 = .ok (.aload_n 0, 1) := by decide +kernel
theorem dX6_copyFrom_143 : decode cX6_copyFrom 143 = .ok (.getfield 37, 3) := by decide +kernel
theorem dX6_copyFrom_146 : decode cX6_copyFrom 146 = .ok (.iconst 0, 1) := by decide +kernel
theorem dX6_copyFrom_147 : decode cX6_copyFrom 147 = .ok (.bipush 20, 2) := by decide +kernel
theorem dX6_copyFrom_149 : decode cX6_copyFrom 149 = .ok (.invokestatic 83, 3) := by decide +kernel
theorem dX6_copyFrom_152 : decode cX6_copyFrom 152 = .ok (.aload_n 0, 1) := by decide +kernel
theorem dX6_copyFrom_153 : decode cX6_copyFrom 153 = .ok (.aload_n 1, 1) := by decide +kernel
theorem dX6_copyFrom_154 : decode cX6_copyFrom 154 = .ok (.getfield 89, 3) := by decide +kernel
theorem dX6_copyFrom_157 : decode cX6_copyFrom 157 = .ok (.putfield 89, 3) := by decide +kernel
theorem dX6_copyFrom_160 : decode cX6_copyFrom 160 = .ok (.aload_n 0, 1) := by decide +kernel
theorem dX6_copyFrom_161 : decode cX6_copyFrom 161 = .ok (.aload_n 1, 1) := by decide +kernel
theorem dX6_copyFrom_162 : decode cX6_copyFrom 162 = .ok (.getfield 41, 3) := by decide +kernel
theorem dX6_copyFrom_165 : decode cX6_copyFrom 165 = .ok (.putfield 41, 3) := by decide +kernel
theorem dX6_copyFrom_168 : decode cX6_copyFrom 168 = .ok (.aload_n 0, 1) := by decide +kernel
theorem dX6_copyFrom_169 : decode cX6_copyFrom 169 = .ok (.aload_n 1, 1) := by decide +kernel
theorem dX6_copyFrom_170 : decode cX6_copyFrom 170 = .ok (.getfield 44, 3) := by decide +kernel
theorem dX6_copyFrom_173 : decode cX6_copyFrom 173 = .ok (.putfield 44, 3) := by decide +kernel
theorem dX6_copyFrom_176 : decode cX6_copyFrom 176 = .ok (.aload_n 0, 1) := by decide +kernel
theorem dX6_copyFrom_177 : decode cX6_copyFrom 177 = .ok (.aload_n 1, 1) := by decide +kernel
theorem dX6_copyFrom_178 : decode cX6_copyFrom 178 = .ok (.getfield 47, 3) := by decide +kernel
theorem dX6_copyFrom_181 : decode cX6_copyFrom 181 = .ok (.putfield 47, 3) := by decide +kernel
theorem dX6_copyFrom_184 : decode cX6_copyFrom 184 = .ok (.aload_n 0, 1) := by decide +kernel
theorem dX6_copyFrom_185 : decode cX6_copyFrom 185 = .ok (.aload_n 1, 1) := by decide +kernel
theorem dX6_copyFrom_186 : decode cX6_copyFrom 186 = .ok (.getfield 50, 3) := by decide +kernel
theorem dX6_copyFrom_189 : decode cX6_copyFrom 189 = .ok (.putfield 50, 3) := by decide +kernel
theorem dX6_copyFrom_192 : decode cX6_copyFrom 192 = .ok (.return_, 1) := by decide +kernel
theorem dX6_beginEmpty_0 : decode cX6_beginEmpty 0 = .ok (.aload_n 0, 1) := by decide +kernel
theorem dX6_beginEmpty_1 : decode cX6_beginEmpty 1 = .ok (.getfield 12, 3) := by decide +kernel
theorem dX6_beginEmpty_4 : decode cX6_beginEmpty 4 = .ok (.iconst 0, 1) := by decide +kernel
theorem dX6_beginEmpty_5 : decode cX6_beginEmpty 5 = .ok (.putfield 92, 3) := by decide +kernel
theorem dX6_beginEmpty_8 : decode cX6_beginEmpty 8 = .ok (.aload_n 0, 1) := by decide +kernel
theorem dX6_beginEmpty_9 : decode cX6_beginEmpty 9 = .ok (.iconst 0, 1) := by decide +kernel
theorem dX6_beginEmpty_10 : decode cX6_beginEmpty 10 = .ok (.putfield 62, 3) := by decide +kernel
theorem dX6_beginEmpty_13 : decode cX6_beginEmpty 13 = .ok (.aload_n 0, 1) := by decide +kernel
theorem dX6_beginEmpty_14 : decode cX6_beginEmpty 14 = .ok (.iconst 0, 1) := by decide +kernel
theorem dX6_beginEmpty_15 : decode cX6_beginEmpty 15 = .ok (.putfield 65, 3) := by decide +kernel
theorem dX6_beginEmpty_18 : decode cX6_beginEmpty 18 = .ok (.aload_n 0, 1) := by decide +kernel
theorem dX6_beginEmpty_19 : decode cX6_beginEmpty 19 = .ok (.iconst 0, 1) := by decide +kernel
theorem dX6_beginEmpty_20 : decode cX6_beginEmpty 20 = .ok (.putfield 68, 3) := by decide +kernel
theorem dX6_beginEmpty_23 : decode cX6_beginEmpty 23 = .ok (.aload_n 0, 1) := by decide +kernel
theorem dX6_beginEmpty_24 : decode cX6_beginEmpty 24 = .ok (.iconst 0, 1) := by decide +kernel
theorem dX6_beginEmpty_25 : decode cX6_beginEmpty 25 = .ok (.putfield 71, 3) := by decide +kernel
theorem dX6_beginEmpty_28 : decode cX6_beginEmpty 28 = .ok (.aload_n 0, 1) := by decide +kernel
theorem dX6_beginEmpty_29 : decode cX6_beginEmpty 29 = .ok (.iconst 0, 1) := by decide +kernel
theorem dX6_beginEmpty_30 : decode cX6_beginEmpty 30 = .ok (.putfield 77, 3) := by decide +kernel
theorem dX6_beginEmpty_33 : decode cX6_beginEmpty 33 = .ok (.aload_n 0, 1) := by decide +kernel
theorem dX6_beginEmpty_34 : decode cX6_beginEmpty 34 = .ok (.iconst 0, 1) := by decide +kernel
theorem dX6_beginEmpty_35 : decode cX6_beginEmpty 35 = .ok (.putfield 89, 3) := by decide +kernel
theorem dX6_beginEmpty_38 : decode cX6_beginEmpty 38 = .ok (.aload_n 0, 1) := by decide +kernel
theorem dX6_beginEmpty_39 : decode cX6_beginEmpty 39 = .ok (.invokevirtual 95, 3) := by decide +kernel
theorem dX6_beginEmpty_42 : decode cX6_beginEmpty 42 = .ok (.return_, 1) := by decide +kernel
theorem dX6_hasBarrel_0 : decode cX6_hasBarrel 0 = .ok (.iload_n 1, 1) := by decide +kernel
theorem dX6_hasBarrel_1 : decode cX6_hasBarrel 1 = .ok (.ifCond .lt 15, 3) := by decide +kernel
theorem dX6_hasBarrel_4 : decode cX6_hasBarrel 4 = .ok (.iload_n 1, 1) := by decide +kernel
theorem dX6_hasBarrel_5 : decode cX6_hasBarrel 5 = .ok (.aload_n 0, 1) := by decide +kernel
theorem dX6_hasBarrel_6 : decode cX6_hasBarrel 6 = .ok (.getfield 77, 3) := by decide +kernel
theorem dX6_hasBarrel_9 : decode cX6_hasBarrel 9 = .ok (.if_icmp .ge 7, 3) := by decide +kernel
theorem dX6_hasBarrel_12 : decode cX6_hasBarrel 12 = .ok (.iconst 1, 1) := by decide +kernel
theorem dX6_hasBarrel_13 : decode cX6_hasBarrel 13 = .ok (.goto 4, 3) := by decide +kernel
theorem dX6_hasBarrel_16 : decode cX6_hasBarrel 16 = .ok (.iconst 0, 1) := by decide +kernel
theorem dX6_hasBarrel_17 : decode cX6_hasBarrel 17 = .ok (.ireturn, 1) := by decide +kernel
theorem dX6_hasBuyer_0 : decode cX6_hasBuyer 0 = .ok (.iload_n 1, 1) := by decide +kernel
theorem dX6_hasBuyer_1 : decode cX6_hasBuyer 1 = .ok (.ifCond .lt 15, 3) := by decide +kernel
theorem dX6_hasBuyer_4 : decode cX6_hasBuyer 4 = .ok (.iload_n 1, 1) := by decide +kernel
theorem dX6_hasBuyer_5 : decode cX6_hasBuyer 5 = .ok (.aload_n 0, 1) := by decide +kernel
theorem dX6_hasBuyer_6 : decode cX6_hasBuyer 6 = .ok (.getfield 71, 3) := by decide +kernel
theorem dX6_hasBuyer_9 : decode cX6_hasBuyer 9 = .ok (.if_icmp .ge 7, 3) := by decide +kernel
theorem dX6_hasBuyer_12 : decode cX6_hasBuyer 12 = .ok (.iconst 1, 1) := by decide +kernel
theorem dX6_hasBuyer_13 : decode cX6_hasBuyer 13 = .ok (.goto 4, 3) := by decide +kernel
theorem dX6_hasBuyer_16 : decode cX6_hasBuyer 16 = .ok (.iconst 0, 1) := by decide +kernel
theorem dX6_hasBuyer_17 : decode cX6_hasBuyer 17 = .ok (.ireturn, 1) := by decide +kernel
theorem dX6_hasRoom_0 : decode cX6_hasRoom 0 = .ok (.aload_n 0, 1) := by decide +kernel
theorem dX6_hasRoom_1 : decode cX6_hasRoom 1 = .ok (.getfield 77, 3) := by decide +kernel
theorem dX6_hasRoom_4 : decode cX6_hasRoom 4 = .ok (.bipush 20, 2) := by decide +kernel
theorem dX6_hasRoom_6 : decode cX6_hasRoom 6 = .ok (.if_icmp .ge 7, 3) := by decide +kernel
theorem dX6_hasRoom_9 : decode cX6_hasRoom 9 = .ok (.iconst 1, 1) := by decide +kernel
theorem dX6_hasRoom_10 : decode cX6_hasRoom 10 = .ok (.goto 4, 3) := by decide +kernel
theorem dX6_hasRoom_13 : decode cX6_hasRoom 13 = .ok (.iconst 0, 1) := by decide +kernel
theorem dX6_hasRoom_14 : decode cX6_hasRoom 14 = .ok (.ireturn, 1) := by decide +kernel
theorem dX6_isWaiting_0 : decode cX6_isWaiting 0 = .ok (.aload_n 0, 1) := by decide +kernel
theorem dX6_isWaiting_1 : decode cX6_isWaiting 1 = .ok (.iload_n 1, 1) := by decide +kernel
theorem dX6_isWaiting_2 : decode cX6_isWaiting 2 = .ok (.invokevirtual 98, 3) := by decide +kernel
theorem dX6_isWaiting_5 : decode cX6_isWaiting 5 = .ok (.ifCond .eq 19, 3) := by decide +kernel
theorem dX6_isWaiting_8 : decode cX6_isWaiting 8 = .ok (.aload_n 0, 1) := by decide +kernel
theorem dX6_isWaiting_9 : decode cX6_isWaiting 9 = .ok (.getfield 33, 3) := by decide +kernel
theorem dX6_isWaiting_12 : decode cX6_isWaiting 12 = .ok (.iload_n 1, 1) := by decide +kernel
theorem dX6_isWaiting_13 : decode cX6_isWaiting 13 = .ok (.aaload, 1) := by decide +kernel
theorem dX6_isWaiting_14 : decode cX6_isWaiting 14 = .ok (.getfield 102, 3) := by decide +kernel
theorem dX6_isWaiting_17 : decode cX6_isWaiting 17 = .ok (.ifCond .ne 7, 3) := by decide +kernel
theorem dX6_isWaiting_20 : decode cX6_isWaiting 20 = .ok (.iconst 1, 1) := by decide +kernel
theorem dX6_isWaiting_21 : decode cX6_isWaiting 21 = .ok (.goto 4, 3) := by decide +kernel
theorem dX6_isWaiting_24 : decode cX6_isWaiting 24 = .ok (.iconst 0, 1) := by decide +kernel
theorem dX6_isWaiting_25 : decode cX6_isWaiting 25 = .ok (.ireturn, 1) := by decide +kernel
theorem dX6_canCut_0 : decode cX6_canCut 0 = .ok (.aload_n 0, 1) := by decide +kernel
theorem dX6_canCut_1 : decode cX6_canCut 1 = .ok (.iload_n 1, 1) := by decide +kernel
theorem dX6_canCut_2 : decode cX6_canCut 2 = .ok (.invokevirtual 105, 3) := by decide +kernel
theorem dX6_canCut_5 : decode cX6_canCut 5 = .ok (.ifCond .eq 32, 3) := by decide +kernel
theorem dX6_canCut_8 : decode cX6_canCut 8 = .ok (.iload_n 2, 1) := by decide +kernel
theorem dX6_canCut_9 : decode cX6_canCut 9 = .ok (.iconst 1, 1) := by decide +kernel
theorem dX6_canCut_10 : decode cX6_canCut 10 = .ok (.if_icmp .lt 27, 3) := by decide +kernel
theorem dX6_canCut_13 : decode cX6_canCut 13 = .ok (.aload_n 0, 1) := by decide +kernel
theorem dX6_canCut_14 : decode cX6_canCut 14 = .ok (.getfield 33, 3) := by decide +kernel
theorem dX6_canCut_17 : decode cX6_canCut 17 = .ok (.iload_n 1, 1) := by decide +kernel
theorem dX6_canCut_18 : decode cX6_canCut 18 = .ok (.aaload, 1) := by decide +kernel
theorem dX6_canCut_19 : decode cX6_canCut 19 = .ok (.getfield 108, 3) := by decide +kernel
theorem dX6_canCut_22 : decode cX6_canCut 22 = .ok (.iload_n 2, 1) := by decide +kernel
theorem dX6_canCut_23 : decode cX6_canCut 23 = .ok (.if_icmp .le 14, 3) := by decide +kernel
theorem dX6_canCut_26 : decode cX6_canCut 26 = .ok (.aload_n 0, 1) := by decide +kernel
theorem dX6_canCut_27 : decode cX6_canCut 27 = .ok (.invokevirtual 111, 3) := by decide +kernel
theorem dX6_canCut_30 : decode cX6_canCut 30 = .ok (.ifCond .eq 7, 3) := by decide +kernel
theorem dX6_canCut_33 : decode cX6_canCut 33 = .ok (.iconst 1, 1) := by decide +kernel
theorem dX6_canCut_34 : decode cX6_canCut 34 = .ok (.goto 4, 3) := by decide +kernel
theorem dX6_canCut_37 : decode cX6_canCut 37 = .ok (.iconst 0, 1) := by decide +kernel
theorem dX6_canCut_38 : decode cX6_canCut 38 = .ok (.ireturn, 1) := by decide +kernel
theorem dX6_takeBuyer_0 : decode cX6_takeBuyer 0 = .ok (.aload_n 0, 1) := by decide +kernel
theorem dX6_takeBuyer_1 : decode cX6_takeBuyer 1 = .ok (.getfield 71, 3) := by decide +kernel
theorem dX6_takeBuyer_4 : decode cX6_takeBuyer 4 = .ok (.bipush 6, 2) := by decide +kernel
theorem dX6_takeBuyer_6 : decode cX6_takeBuyer 6 = .ok (.if_icmp .ge 38, 3) := by decide +kernel
theorem dX6_takeBuyer_9 : decode cX6_takeBuyer 9 = .ok (.aload_n 0, 1) := by decide +kernel
theorem dX6_takeBuyer_10 : decode cX6_takeBuyer 10 = .ok (.getfield 27, 3) := by decide +kernel
theorem dX6_takeBuyer_13 : decode cX6_takeBuyer 13 = .ok (.aload_n 0, 1) := by decide +kernel
theorem dX6_takeBuyer_14 : decode cX6_takeBuyer 14 = .ok (.getfield 71, 3) := by decide +kernel
theorem dX6_takeBuyer_17 : decode cX6_takeBuyer 17 = .ok (.aaload, 1) := by decide +kernel
theorem dX6_takeBuyer_18 : decode cX6_takeBuyer 18 = .ok (.iload_n 1, 1) := by decide +kernel
theorem dX6_takeBuyer_19 : decode cX6_takeBuyer 19 = .ok (.iload_n 2, 1) := by decide +kernel
theorem dX6_takeBuyer_20 : decode cX6_takeBuyer 20 = .ok (.iload_n 3, 1) := by decide +kernel
theorem dX6_takeBuyer_21 : decode cX6_takeBuyer 21 = .ok (.invokevirtual 115, 3) := by decide +kernel
theorem dX6_takeBuyer_24 : decode cX6_takeBuyer 24 = .ok (.aload_n 0, 1) := by decide +kernel
theorem dX6_takeBuyer_25 : decode cX6_takeBuyer 25 = .ok (.dup, 1) := by decide +kernel
theorem dX6_takeBuyer_26 : decode cX6_takeBuyer 26 = .ok (.getfield 71, 3) := by decide +kernel
theorem dX6_takeBuyer_29 : decode cX6_takeBuyer 29 = .ok (.iconst 1, 1) := by decide +kernel
theorem dX6_takeBuyer_30 : decode cX6_takeBuyer 30 = .ok (.iadd, 1) := by decide +kernel
theorem dX6_takeBuyer_31 : decode cX6_takeBuyer 31 = .ok (.putfield 71, 3) := by decide +kernel
theorem dX6_takeBuyer_34 : decode cX6_takeBuyer 34 = .ok (.aload_n 0, 1) := by decide +kernel
theorem dX6_takeBuyer_35 : decode cX6_takeBuyer 35 = .ok (.dup, 1) := by decide +kernel
theorem dX6_takeBuyer_36 : decode cX6_takeBuyer 36 = .ok (.getfield 68, 3) := by decide +kernel
theorem dX6_takeBuyer_39 : decode cX6_takeBuyer 39 = .ok (.iload_n 1, 1) := by decide +kernel
theorem dX6_takeBuyer_40 : decode cX6_takeBuyer 40 = .ok (.iadd, 1) := by decide +kernel
theorem dX6_takeBuyer_41 : decode cX6_takeBuyer 41 = .ok (.putfield 68, 3) := by decide +kernel
theorem dX6_takeBuyer_44 : decode cX6_takeBuyer 44 = .ok (.return_, 1) := by decide +kernel
theorem dX6_takeBarrel_0 : decode cX6_takeBarrel 0 = .ok (.aload_n 0, 1) := by decide +kernel
theorem dX6_takeBarrel_1 : decode cX6_takeBarrel 1 = .ok (.invokevirtual 111, 3) := by decide +kernel
theorem dX6_takeBarrel_4 : decode cX6_takeBarrel 4 = .ok (.ifCond .ne 5, 3) := by decide +kernel
theorem dX6_takeBarrel_7 : decode cX6_takeBarrel 7 = .ok (.iconst (-1), 1) := by decide +kernel
theorem dX6_takeBarrel_8 : decode cX6_takeBarrel 8 = .ok (.ireturn, 1) := by decide +kernel
theorem dX6_takeBarrel_9 : decode cX6_takeBarrel 9 = .ok (.aload_n 0, 1) := by decide +kernel
theorem dX6_takeBarrel_10 : decode cX6_takeBarrel 10 = .ok (.getfield 77, 3) := by decide +kernel
theorem dX6_takeBarrel_13 : decode cX6_takeBarrel 13 = .ok (.istore 5, 2) := by decide +kernel
theorem dX6_takeBarrel_15 : decode cX6_takeBarrel 15 = .ok (.aload_n 0, 1) := by decide +kernel
theorem dX6_takeBarrel_16 : decode cX6_takeBarrel 16 = .ok (.dup, 1) := by decide +kernel
theorem dX6_takeBarrel_17 : decode cX6_takeBarrel 17 = .ok (.getfield 77, 3) := by decide +kernel
theorem dX6_takeBarrel_20 : decode cX6_takeBarrel 20 = .ok (.iconst 1, 1) := by decide +kernel
theorem dX6_takeBarrel_21 : decode cX6_takeBarrel 21 = .ok (.iadd, 1) := by decide +kernel
theorem dX6_takeBarrel_22 : decode cX6_takeBarrel 22 = .ok (.putfield 77, 3) := by decide +kernel
theorem dX6_takeBarrel_25 : decode cX6_takeBarrel 25 = .ok (.aload_n 0, 1) := by decide +kernel
theorem dX6_takeBarrel_26 : decode cX6_takeBarrel 26 = .ok (.getfield 33, 3) := by decide +kernel
theorem dX6_takeBarrel_29 : decode cX6_takeBarrel 29 = .ok (.iload 5, 2) := by decide +kernel
theorem dX6_takeBarrel_31 : decode cX6_takeBarrel 31 = .ok (.aaload, 1) := by decide +kernel
theorem dX6_takeBarrel_32 : decode cX6_takeBarrel 32 = .ok (.aload_n 2, 1) := by decide +kernel
theorem dX6_takeBarrel_33 : decode cX6_takeBarrel 33 = .ok (.iload_n 3, 1) := by decide +kernel
theorem dX6_takeBarrel_34 : decode cX6_takeBarrel 34 = .ok (.iload 4, 2) := by decide +kernel
theorem dX6_takeBarrel_36 : decode cX6_takeBarrel 36 = .ok (.invokevirtual 119, 3) := by decide +kernel
theorem dX6_takeBarrel_39 : decode cX6_takeBarrel 39 = .ok (.aload_n 0, 1) := by decide +kernel
theorem dX6_takeBarrel_40 : decode cX6_takeBarrel 40 = .ok (.getfield 33, 3) := by decide +kernel
theorem dX6_takeBarrel_43 : decode cX6_takeBarrel 43 = .ok (.iload 5, 2) := by decide +kernel
theorem dX6_takeBarrel_45 : decode cX6_takeBarrel 45 = .ok (.aaload, 1) := by decide +kernel
theorem dX6_takeBarrel_46 : decode cX6_takeBarrel 46 = .ok (.iload_n 1, 1) := by decide +kernel
theorem dX6_takeBarrel_47 : decode cX6_takeBarrel 47 = .ok (.invokevirtual 123, 3) := by decide +kernel
theorem dX6_takeBarrel_50 : decode cX6_takeBarrel 50 = .ok (.aload_n 0, 1) := by decide +kernel
theorem dX6_takeBarrel_51 : decode cX6_takeBarrel 51 = .ok (.iload 5, 2) := by decide +kernel
theorem dX6_takeBarrel_53 : decode cX6_takeBarrel 53 = .ok (.invokevirtual 127, 3) := by decide +kernel
theorem dX6_takeBarrel_56 : decode cX6_takeBarrel 56 = .ok (.iload 5, 2) := by decide +kernel
theorem dX6_takeBarrel_58 : decode cX6_takeBarrel 58 = .ok (.ireturn, 1) := by decide +kernel
theorem dX6_cut_0 : decode cX6_cut 0 = .ok (.aload_n 0, 1) := by decide +kernel
theorem dX6_cut_1 : decode cX6_cut 1 = .ok (.iload_n 1, 1) := by decide +kernel
theorem dX6_cut_2 : decode cX6_cut 2 = .ok (.iload_n 2, 1) := by decide +kernel
theorem dX6_cut_3 : decode cX6_cut 3 = .ok (.invokevirtual 130, 3) := by decide +kernel
theorem dX6_cut_6 : decode cX6_cut 6 = .ok (.ifCond .ne 5, 3) := by decide +kernel
theorem dX6_cut_9 : decode cX6_cut 9 = .ok (.iconst (-1), 1) := by decide +kernel
theorem dX6_cut_10 : decode cX6_cut 10 = .ok (.ireturn, 1) := by decide +kernel
theorem dX6_cut_11 : decode cX6_cut 11 = .ok (.aload_n 0, 1) := by decide +kernel
theorem dX6_cut_12 : decode cX6_cut 12 = .ok (.getfield 33, 3) := by decide +kernel
theorem dX6_cut_15 : decode cX6_cut 15 = .ok (.iload_n 1, 1) := by decide +kernel
theorem dX6_cut_16 : decode cX6_cut 16 = .ok (.aaload, 1) := by decide +kernel
theorem dX6_cut_17 : decode cX6_cut 17 = .ok (.astore_n 3, 1) := by decide +kernel
theorem dX6_cut_18 : decode cX6_cut 18 = .ok (.aload_n 3, 1) := by decide +kernel
theorem dX6_cut_19 : decode cX6_cut 19 = .ok (.getfield 108, 3) := by decide +kernel
theorem dX6_cut_22 : decode cX6_cut 22 = .ok (.istore 4, 2) := by decide +kernel
theorem dX6_cut_24 : decode cX6_cut 24 = .ok (.aload_n 3, 1) := by decide +kernel
theorem dX6_cut_25 : decode cX6_cut 25 = .ok (.getfield 134, 3) := by decide +kernel
theorem dX6_cut_28 : decode cX6_cut 28 = .ok (.iload_n 2, 1) := by decide +kernel
theorem dX6_cut_29 : decode cX6_cut 29 = .ok (.imul, 1) := by decide +kernel
theorem dX6_cut_30 : decode cX6_cut 30 = .ok (.iload 4, 2) := by decide +kernel
theorem dX6_cut_32 : decode cX6_cut 32 = .ok (.idiv, 1) := by decide +kernel
theorem dX6_cut_33 : decode cX6_cut 33 = .ok (.istore 5, 2) := by decide +kernel
theorem dX6_cut_35 : decode cX6_cut 35 = .ok (.aload_n 0, 1) := by decide +kernel
theorem dX6_cut_36 : decode cX6_cut 36 = .ok (.iload 5, 2) := by decide +kernel
theorem dX6_cut_38 : decode cX6_cut 38 = .ok (.iconst 1, 1) := by decide +kernel
theorem dX6_cut_39 : decode cX6_cut 39 = .ok (.invokestatic 137, 3) := by decide +kernel
theorem dX6_cut_42 : decode cX6_cut 42 = .ok (.aload_n 3, 1) := by decide +kernel
theorem dX6_cut_43 : decode cX6_cut 43 = .ok (.getfield 143, 3) := by decide +kernel
theorem dX6_cut_46 : decode cX6_cut 46 = .ok (.iload 4, 2) := by decide +kernel
theorem dX6_cut_48 : decode cX6_cut 48 = .ok (.iload_n 2, 1) := by decide +kernel
theorem dX6_cut_49 : decode cX6_cut 49 = .ok (.isub, 1) := by decide +kernel
theorem dX6_cut_50 : decode cX6_cut 50 = .ok (.iload 4, 2) := by decide +kernel
theorem dX6_cut_52 : decode cX6_cut 52 = .ok (.invokevirtual 146, 3) := by decide +kernel
theorem dX6_cut_55 : decode cX6_cut 55 = .ok (.istore 6, 2) := by decide +kernel
theorem dX6_cut_57 : decode cX6_cut 57 = .ok (.aload_n 3, 1) := by decide +kernel
theorem dX6_cut_58 : decode cX6_cut 58 = .ok (.iload 4, 2) := by decide +kernel
theorem dX6_cut_60 : decode cX6_cut 60 = .ok (.iload_n 2, 1) := by decide +kernel
theorem dX6_cut_61 : decode cX6_cut 61 = .ok (.isub, 1) := by decide +kernel
theorem dX6_cut_62 : decode cX6_cut 62 = .ok (.invokevirtual 150, 3) := by decide +kernel
theorem dX6_cut_65 : decode cX6_cut 65 = .ok (.aload_n 3, 1) := by decide +kernel
theorem dX6_cut_66 : decode cX6_cut 66 = .ok (.aload_n 3, 1) := by decide +kernel
theorem dX6_cut_67 : decode cX6_cut 67 = .ok (.getfield 134, 3) := by decide +kernel
theorem dX6_cut_70 : decode cX6_cut 70 = .ok (.iload 5, 2) := by decide +kernel
theorem dX6_cut_72 : decode cX6_cut 72 = .ok (.isub, 1) := by decide +kernel
theorem dX6_cut_73 : decode cX6_cut 73 = .ok (.iconst 1, 1) := by decide +kernel
theorem dX6_cut_74 : decode cX6_cut 74 = .ok (.invokestatic 137, 3) := by decide +kernel
theorem dX6_cut_77 : decode cX6_cut 77 = .ok (.putfield 134, 3) := by decide +kernel
theorem dX6_cut_80 : decode cX6_cut 80 = .ok (.iload 6, 2) := by decide +kernel
theorem dX6_cut_82 : decode cX6_cut 82 = .ok (.ireturn, 1) := by decide +kernel
theorem dX6_takeAway_0 : decode cX6_takeAway 0 = .ok (.aload_n 0, 1) := by decide +kernel
theorem dX6_takeAway_1 : decode cX6_takeAway 1 = .ok (.iload_n 1, 1) := by decide +kernel
theorem dX6_takeAway_2 : decode cX6_takeAway 2 = .ok (.invokevirtual 105, 3) := by decide +kernel
theorem dX6_takeAway_5 : decode cX6_takeAway 5 = .ok (.ifCond .eq 18, 3) := by decide +kernel
theorem dX6_takeAway_8 : decode cX6_takeAway 8 = .ok (.aload_n 0, 1) := by decide +kernel
theorem dX6_takeAway_9 : decode cX6_takeAway 9 = .ok (.getfield 33, 3) := by decide +kernel
theorem dX6_takeAway_12 : decode cX6_takeAway 12 = .ok (.iload_n 1, 1) := by decide +kernel
theorem dX6_takeAway_13 : decode cX6_takeAway 13 = .ok (.aaload, 1) := by decide +kernel
theorem dX6_takeAway_14 : decode cX6_takeAway 14 = .ok (.iconst 3, 1) := by decide +kernel
theorem dX6_takeAway_15 : decode cX6_takeAway 15 = .ok (.putfield 102, 3) := by decide +kernel
theorem dX6_takeAway_18 : decode cX6_takeAway 18 = .ok (.aload_n 0, 1) := by decide +kernel
theorem dX6_takeAway_19 : decode cX6_takeAway 19 = .ok (.iload_n 1, 1) := by decide +kernel
theorem dX6_takeAway_20 : decode cX6_takeAway 20 = .ok (.invokevirtual 153, 3) := by decide +kernel
theorem dX6_takeAway_23 : decode cX6_takeAway 23 = .ok (.return_, 1) := by decide +kernel
theorem dX6_putCoins_0 : decode cX6_putCoins 0 = .ok (.aload_n 0, 1) := by decide +kernel
theorem dX6_putCoins_1 : decode cX6_putCoins 1 = .ok (.iload_n 1, 1) := by decide +kernel
theorem dX6_putCoins_2 : decode cX6_putCoins 2 = .ok (.invokevirtual 156, 3) := by decide +kernel
theorem dX6_putCoins_5 : decode cX6_putCoins 5 = .ok (.ifCond .eq 45, 3) := by decide +kernel
theorem dX6_putCoins_8 : decode cX6_putCoins 8 = .ok (.iload_n 2, 1) := by decide +kernel
theorem dX6_putCoins_9 : decode cX6_putCoins 9 = .ok (.ldc 159, 2) := by decide +kernel
theorem dX6_putCoins_11 : decode cX6_putCoins 11 = .ok (.aload_n 0, 1) := by decide +kernel
theorem dX6_putCoins_12 : decode cX6_putCoins 12 = .ok (.getfield 27, 3) := by decide +kernel
theorem dX6_putCoins_15 : decode cX6_putCoins 15 = .ok (.iload_n 1, 1) := by decide +kernel
theorem dX6_putCoins_16 : decode cX6_putCoins 16 = .ok (.aaload, 1) := by decide +kernel
theorem dX6_putCoins_17 : decode cX6_putCoins 17 = .ok (.getfield 160, 3) := by decide +kernel
theorem dX6_putCoins_20 : decode cX6_putCoins 20 = .ok (.isub, 1) := by decide +kernel
theorem dX6_putCoins_21 : decode cX6_putCoins 21 = .ok (.invokestatic 163, 3) := by decide +kernel
theorem dX6_putCoins_24 : decode cX6_putCoins 24 = .ok (.istore_n 3, 1) := by decide +kernel
theorem dX6_putCoins_25 : decode cX6_putCoins 25 = .ok (.aload_n 0, 1) := by decide +kernel
theorem dX6_putCoins_26 : decode cX6_putCoins 26 = .ok (.getfield 27, 3) := by decide +kernel
theorem dX6_putCoins_29 : decode cX6_putCoins 29 = .ok (.iload_n 1, 1) := by decide +kernel
theorem dX6_putCoins_30 : decode cX6_putCoins 30 = .ok (.aaload, 1) := by decide +kernel
theorem dX6_putCoins_31 : decode cX6_putCoins 31 = .ok (.dup, 1) := by decide +kernel
theorem dX6_putCoins_32 : decode cX6_putCoins 32 = .ok (.getfield 160, 3) := by decide +kernel
theorem dX6_putCoins_35 : decode cX6_putCoins 35 = .ok (.iload_n 3, 1) := by decide +kernel
theorem dX6_putCoins_36 : decode cX6_putCoins 36 = .ok (.iadd, 1) := by decide +kernel
theorem dX6_putCoins_37 : decode cX6_putCoins 37 = .ok (.putfield 160, 3) := by decide +kernel
theorem dX6_putCoins_40 : decode cX6_putCoins 40 = .ok (.aload_n 0, 1) := by decide +kernel
theorem dX6_putCoins_41 : decode cX6_putCoins 41 = .ok (.dup, 1) := by decide +kernel
theorem dX6_putCoins_42 : decode cX6_putCoins 42 = .ok (.getfield 68, 3) := by decide +kernel
theorem dX6_putCoins_45 : decode cX6_putCoins 45 = .ok (.iload_n 3, 1) := by decide +kernel
theorem dX6_putCoins_46 : decode cX6_putCoins 46 = .ok (.iadd, 1) := by decide +kernel
theorem dX6_putCoins_47 : decode cX6_putCoins 47 = .ok (.putfield 68, 3) := by decide +kernel
theorem dX6_putCoins_50 : decode cX6_putCoins 50 = .ok (.return_, 1) := by decide +kernel
theorem dX6_coinsInPurses_0 : decode cX6_coinsInPurses 0 = .ok (.iconst 0, 1) := by decide +kernel
theorem dX6_coinsInPurses_1 : decode cX6_coinsInPurses 1 = .ok (.istore_n 1, 1) := by decide +kernel
theorem dX6_coinsInPurses_2 : decode cX6_coinsInPurses 2 = .ok (.iconst 0, 1) := by decide +kernel
theorem dX6_coinsInPurses_3 : decode cX6_coinsInPurses 3 = .ok (.istore_n 2, 1) := by decide +kernel
theorem dX6_coinsInPurses_4 : decode cX6_coinsInPurses 4 = .ok (.iload_n 2, 1) := by decide +kernel
theorem dX6_coinsInPurses_5 : decode cX6_coinsInPurses 5 = .ok (.aload_n 0, 1) := by decide +kernel
theorem dX6_coinsInPurses_6 : decode cX6_coinsInPurses 6 = .ok (.getfield 71, 3) := by decide +kernel
theorem dX6_coinsInPurses_9 : decode cX6_coinsInPurses 9 = .ok (.if_icmp .ge 21, 3) := by decide +kernel
theorem dX6_coinsInPurses_12 : decode cX6_coinsInPurses 12 = .ok (.iload_n 1, 1) := by decide +kernel
theorem dX6_coinsInPurses_13 : decode cX6_coinsInPurses 13 = .ok (.aload_n 0, 1) := by decide +kernel
theorem dX6_coinsInPurses_14 : decode cX6_coinsInPurses 14 = .ok (.getfield 27, 3) := by decide +kernel
theorem dX6_coinsInPurses_17 : decode cX6_coinsInPurses 17 = .ok (.iload_n 2, 1) := by decide +kernel
theorem dX6_coinsInPurses_18 : decode cX6_coinsInPurses 18 = .ok (.aaload, 1) := by decide +kernel
theorem dX6_coinsInPurses_19 : decode cX6_coinsInPurses 19 = .ok (.getfield 160, 3) := by decide +kernel
theorem dX6_coinsInPurses_22 : decode cX6_coinsInPurses 22 = .ok (.iadd, 1) := by decide +kernel
theorem dX6_coinsInPurses_23 : decode cX6_coinsInPurses 23 = .ok (.istore_n 1, 1) := by decide +kernel
