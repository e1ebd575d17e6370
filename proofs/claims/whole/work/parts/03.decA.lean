theorem dX1_init_0 : decode cX1_init 0 = .ok (.aload_n 0, 1) := by decide +kernel
theorem dX1_init_1 : decode cX1_init 1 = .ok (.invokespecial 3, 3) := by decide +kernel
theorem dX1_init_4 : decode cX1_init 4 = .ok (.aload_n 0, 1) := by decide +kernel
theorem dX1_init_5 : decode cX1_init 5 = .ok (.bipush 9, 2) := by decide +kernel
theorem dX1_init_7 : decode cX1_init 7 = .ok (.newarray .int, 2) := by decide +kernel
theorem dX1_init_9 : decode cX1_init 9 = .ok (.putfield 9, 3) := by decide +kernel
theorem dX1_init_12 : decode cX1_init 12 = .ok (.return_, 1) := by decide +kernel
theorem dX1_fill_0 : decode cX1_fill 0 = .ok (.aload_n 0, 1) := by decide +kernel
theorem dX1_fill_1 : decode cX1_fill 1 = .ok (.invokevirtual 15, 3) := by decide +kernel
theorem dX1_fill_4 : decode cX1_fill 4 = .ok (.iload_n 2, 1) := by decide +kernel
theorem dX1_fill_5 : decode cX1_fill 5 = .ok (.istore 4, 2) := by decide +kernel
theorem dX1_fill_7 : decode cX1_fill 7 = .ok (.iload 4, 2) := by decide +kernel
theorem dX1_fill_9 : decode cX1_fill 9 = .ok (.ifCond .lt 30, 3) := by decide +kernel
theorem dX1_fill_12 : decode cX1_fill 12 = .ok (.iload 4, 2) := by decide +kernel
theorem dX1_fill_14 : decode cX1_fill 14 = .ok (.iload_n 3, 1) := by decide +kernel
theorem dX1_fill_15 : decode cX1_fill 15 = .ok (.if_icmp .ge 24, 3) := by decide +kernel
theorem dX1_fill_18 : decode cX1_fill 18 = .ok (.iload 4, 2) := by decide +kernel
theorem dX1_fill_20 : decode cX1_fill 20 = .ok (.aload_n 1, 1) := by decide +kernel
theorem dX1_fill_21 : decode cX1_fill 21 = .ok (.arraylength, 1) := by decide +kernel
theorem dX1_fill_22 : decode cX1_fill 22 = .ok (.if_icmp .ge 17, 3) := by decide +kernel
theorem dX1_fill_25 : decode cX1_fill 25 = .ok (.aload_n 0, 1) := by decide +kernel
theorem dX1_fill_26 : decode cX1_fill 26 = .ok (.aload_n 1, 1) := by decide +kernel
theorem dX1_fill_27 : decode cX1_fill 27 = .ok (.iload 4, 2) := by decide +kernel
theorem dX1_fill_29 : decode cX1_fill 29 = .ok (.iaload, 1) := by decide +kernel
theorem dX1_fill_30 : decode cX1_fill 30 = .ok (.invokevirtual 18, 3) := by decide +kernel
theorem dX1_fill_33 : decode cX1_fill 33 = .ok (.iinc 4 1, 3) := by decide +kernel
theorem dX1_fill_36 : decode cX1_fill 36 = .ok (.goto (-29), 3) := by decide +kernel
theorem dX1_fill_39 : decode cX1_fill 39 = .ok (.return_, 1) := by decide +kernel
theorem dX1_keepFirst_0 : decode cX1_keepFirst 0 = .ok (.aload_n 0, 1) := by decide +kernel
theorem dX1_keepFirst_1 : decode cX1_keepFirst 1 = .ok (.aload_n 0, 1) := by decide +kernel
theorem dX1_keepFirst_2 : decode cX1_keepFirst 2 = .ok (.getfield 9, 3) := by decide +kernel
theorem dX1_keepFirst_5 : decode cX1_keepFirst 5 = .ok (.iconst 0, 1) := by decide +kernel
theorem dX1_keepFirst_6 : decode cX1_keepFirst 6 = .ok (.iload_n 1, 1) := by decide +kernel
theorem dX1_keepFirst_7 : decode cX1_keepFirst 7 = .ok (.invokevirtual 22, 3) := by decide +kernel
theorem dX1_keepFirst_10 : decode cX1_keepFirst 10 = .ok (.return_, 1) := by decide +kernel
theorem dX1_beginWaiting_0 : decode cX1_beginWaiting 0 = .ok (.aload_n 0, 1) := by decide +kernel
theorem dX1_beginWaiting_1 : decode cX1_beginWaiting 1 = .ok (.iload_n 1, 1) := by decide +kernel
theorem dX1_beginWaiting_2 : decode cX1_beginWaiting 2 = .ok (.putfield 26, 3) := by decide +kernel
theorem dX1_beginWaiting_5 : decode cX1_beginWaiting 5 = .ok (.aload_n 0, 1) := by decide +kernel
theorem dX1_beginWaiting_6 : decode cX1_beginWaiting 6 = .ok (.iconst 0, 1) := by decide +kernel
theorem dX1_beginWaiting_7 : decode cX1_beginWaiting 7 = .ok (.putfield 30, 3) := by decide +kernel
theorem dX1_beginWaiting_10 : decode cX1_beginWaiting 10 = .ok (.aload_n 0, 1) := by decide +kernel
theorem dX1_beginWaiting_11 : decode cX1_beginWaiting 11 = .ok (.iconst 0, 1) := by decide +kernel
theorem dX1_beginWaiting_12 : decode cX1_beginWaiting 12 = .ok (.putfield 33, 3) := by decide +kernel
theorem dX1_beginWaiting_15 : decode cX1_beginWaiting 15 = .ok (.aload_n 0, 1) := by decide +kernel
theorem dX1_beginWaiting_16 : decode cX1_beginWaiting 16 = .ok (.iconst (-1), 1) := by decide +kernel
theorem dX1_beginWaiting_17 : decode cX1_beginWaiting 17 = .ok (.putfield 36, 3) := by decide +kernel
theorem dX1_beginWaiting_20 : decode cX1_beginWaiting 20 = .ok (.aload_n 0, 1) := by decide +kernel
theorem dX1_beginWaiting_21 : decode cX1_beginWaiting 21 = .ok (.iconst (-1), 1) := by decide +kernel
theorem dX1_beginWaiting_22 : decode cX1_beginWaiting 22 = .ok (.putfield 39, 3) := by decide +kernel
theorem dX1_beginWaiting_25 : decode cX1_beginWaiting 25 = .ok (.return_, 1) := by decide +kernel
theorem dX1_lengthAtRank_0 : decode cX1_lengthAtRank 0 = .ok (.iconst 0, 1) := by decide +kernel
theorem dX1_lengthAtRank_1 : decode cX1_lengthAtRank 1 = .ok (.istore_n 2, 1) := by decide +kernel
theorem dX1_lengthAtRank_2 : decode cX1_lengthAtRank 2 = .ok (.iload_n 2, 1) := by decide +kernel
theorem dX1_lengthAtRank_3 : decode cX1_lengthAtRank 3 = .ok (.aload_n 0, 1) := by decide +kernel
theorem dX1_lengthAtRank_4 : decode cX1_lengthAtRank 4 = .ok (.getfield 42, 3) := by decide +kernel
theorem dX1_lengthAtRank_7 : decode cX1_lengthAtRank 7 = .ok (.if_icmp .ge 100, 3) := by decide +kernel
theorem dX1_lengthAtRank_10 : decode cX1_lengthAtRank 10 = .ok (.iconst 0, 1) := by decide +kernel
theorem dX1_lengthAtRank_11 : decode cX1_lengthAtRank 11 = .ok (.istore_n 3, 1) := by decide +kernel
theorem dX1_lengthAtRank_12 : decode cX1_lengthAtRank 12 = .ok (.iconst 0, 1) := by decide +kernel
theorem dX1_lengthAtRank_13 : decode cX1_lengthAtRank 13 = .ok (.istore 4, 2) := by decide +kernel
theorem dX1_lengthAtRank_15 : decode cX1_lengthAtRank 15 = .ok (.iconst 0, 1) := by decide +kernel
theorem dX1_lengthAtRank_16 : decode cX1_lengthAtRank 16 = .ok (.istore 5, 2) := by decide +kernel
theorem dX1_lengthAtRank_18 : decode cX1_lengthAtRank 18 = .ok (.iload 5, 2) := by decide +kernel
theorem dX1_lengthAtRank_20 : decode cX1_lengthAtRank 20 = .ok (.aload_n 0, 1) := by decide +kernel
theorem dX1_lengthAtRank_21 : decode cX1_lengthAtRank 21 = .ok (.getfield 42, 3) := by decide +kernel
theorem dX1_lengthAtRank_24 : decode cX1_lengthAtRank 24 = .ok (.if_icmp .ge 59, 3) := by decide +kernel
theorem dX1_lengthAtRank_27 : decode cX1_lengthAtRank 27 = .ok (.iload_n 3, 1) := by decide +kernel
theorem dX1_lengthAtRank_28 : decode cX1_lengthAtRank 28 = .ok (.aload_n 0, 1) := by decide +kernel
theorem dX1_lengthAtRank_29 : decode cX1_lengthAtRank 29 = .ok (.getfield 9, 3) := by decide +kernel
theorem dX1_lengthAtRank_32 : decode cX1_lengthAtRank 32 = .ok (.iload 5, 2) := by decide +kernel
theorem dX1_lengthAtRank_34 : decode cX1_lengthAtRank 34 = .ok (.iaload, 1) := by decide +kernel
theorem dX1_lengthAtRank_35 : decode cX1_lengthAtRank 35 = .ok (.aload_n 0, 1) := by decide +kernel
theorem dX1_lengthAtRank_36 : decode cX1_lengthAtRank 36 = .ok (.getfield 9, 3) := by decide +kernel
theorem dX1_lengthAtRank_39 : decode cX1_lengthAtRank 39 = .ok (.iload_n 2, 1) := by decide +kernel
theorem dX1_lengthAtRank_40 : decode cX1_lengthAtRank 40 = .ok (.iaload, 1) := by decide +kernel
theorem dX1_lengthAtRank_41 : decode cX1_lengthAtRank 41 = .ok (.if_icmp .ge 7, 3) := by decide +kernel
theorem dX1_lengthAtRank_44 : decode cX1_lengthAtRank 44 = .ok (.iconst 1, 1) := by decide +kernel
theorem dX1_lengthAtRank_45 : decode cX1_lengthAtRank 45 = .ok (.goto 4, 3) := by decide +kernel
theorem dX1_lengthAtRank_48 : decode cX1_lengthAtRank 48 = .ok (.iconst 0, 1) := by decide +kernel
theorem dX1_lengthAtRank_49 : decode cX1_lengthAtRank 49 = .ok (.iadd, 1) := by decide +kernel
theorem dX1_lengthAtRank_50 : decode cX1_lengthAtRank 50 = .ok (.istore_n 3, 1) := by decide +kernel
theorem dX1_lengthAtRank_51 : decode cX1_lengthAtRank 51 = .ok (.iload 4, 2) := by decide +kernel
theorem dX1_lengthAtRank_53 : decode cX1_lengthAtRank 53 = .ok (.aload_n 0, 1) := by decide +kernel
theorem dX1_lengthAtRank_54 : decode cX1_lengthAtRank 54 = .ok (.getfield 9, 3) := by decide +kernel
theorem dX1_lengthAtRank_57 : decode cX1_lengthAtRank 57 = .ok (.iload 5, 2) := by decide +kernel
theorem dX1_lengthAtRank_59 : decode cX1_lengthAtRank 59 = .ok (.iaload, 1) := by decide +kernel
theorem dX1_lengthAtRank_60 : decode cX1_lengthAtRank 60 = .ok (.aload_n 0, 1) := by decide +kernel
theorem dX1_lengthAtRank_61 : decode cX1_lengthAtRank 61 = .ok (.getfield 9, 3) := by decide +kernel
theorem dX1_lengthAtRank_64 : decode cX1_lengthAtRank 64 = .ok (.iload_n 2, 1) := by decide +kernel
theorem dX1_lengthAtRank_65 : decode cX1_lengthAtRank 65 = .ok (.iaload, 1) := by decide +kernel
theorem dX1_lengthAtRank_66 : decode cX1_lengthAtRank 66 = .ok (.if_icmp .gt 7, 3) := by decide +kernel
theorem dX1_lengthAtRank_69 : decode cX1_lengthAtRank 69 = .ok (.iconst 1, 1) := by decide +kernel
theorem dX1_lengthAtRank_70 : decode cX1_lengthAtRank 70 = .ok (.goto 4, 3) := by decide +kernel
theorem dX1_lengthAtRank_73 : decode cX1_lengthAtRank 73 = .ok (.iconst 0, 1) := by decide +kernel
theorem dX1_lengthAtRank_74 : decode cX1_lengthAtRank 74 = .ok (.iadd, 1) := by decide +kernel
theorem dX1_lengthAtRank_75 : decode cX1_lengthAtRank 75 = .ok (.istore 4, 2) := by decide +kernel
theorem dX1_lengthAtRank_77 : decode cX1_lengthAtRank 77 = .ok (.iinc 5 1, 3) := by decide +kernel
theorem dX1_lengthAtRank_80 : decode cX1_lengthAtRank 80 = .ok (.goto (-62), 3) := by decide +kernel
theorem dX1_lengthAtRank_83 : decode cX1_lengthAtRank 83 = .ok (.iload_n 3, 1) := by decide +kernel
theorem dX1_lengthAtRank_84 : decode cX1_lengthAtRank 84 = .ok (.iload_n 1, 1) := by decide +kernel
theorem dX1_lengthAtRank_85 : decode cX1_lengthAtRank 85 = .ok (.if_icmp .gt 16, 3) := by decide +kernel
theorem dX1_lengthAtRank_88 : decode cX1_lengthAtRank 88 = .ok (.iload_n 1, 1) := by decide +kernel
theorem dX1_lengthAtRank_89 : decode cX1_lengthAtRank 89 = .ok (.iload 4, 2) := by decide +kernel
theorem dX1_lengthAtRank_91 : decode cX1_lengthAtRank 91 = .ok (.if_icmp .ge 10, 3) := by decide +kernel
theorem dX1_lengthAtRank_94 : decode cX1_lengthAtRank 94 = .ok (.aload_n 0, 1) := by decide +kernel
theorem dX1_lengthAtRank_95 : decode cX1_lengthAtRank 95 = .ok (.getfield 9, 3) := by decide +kernel
theorem dX1_lengthAtRank_98 : decode cX1_lengthAtRank 98 = .ok (.iload_n 2, 1) := by decide +kernel
theorem dX1_lengthAtRank_99 : decode cX1_lengthAtRank 99 = .ok (.iaload, 1) := by decide +kernel
theorem dX1_lengthAtRank_100 : decode cX1_lengthAtRank 100 = .ok (.ireturn, 1) := by decide +kernel
theorem dX1_lengthAtRank_101 : decode cX1_lengthAtRank 101 = .ok (.iinc 2 1, 3) := by decide +kernel
theorem dX1_lengthAtRank_104 : decode cX1_lengthAtRank 104 = .ok (.goto (-102), 3) := by decide +kernel
theorem dX1_lengthAtRank_107 : decode cX1_lengthAtRank 107 = .ok (.iconst (-1), 1) := by decide +kernel
theorem dX1_lengthAtRank_108 : decode cX1_lengthAtRank 108 = .ok (.ireturn, 1) := by decide +kernel
theorem dX1_copyFrom_0 : decode cX1_copyFrom 0 = .ok (.aload_n 1, 1) := by decide +kernel
theorem dX1_copyFrom_1 : decode cX1_copyFrom 1 = .ok (.getfield 9, 3) := by decide +kernel
theorem dX1_copyFrom_4 : decode cX1_copyFrom 4 = .ok (.iconst 0, 1) := by decide +kernel
theorem dX1_copyFrom_5 : decode cX1_copyFrom 5 = .ok (.aload_n 0, 1) := by decide +kernel
theorem dX1_copyFrom_6 : decode cX1_copyFrom 6 = .ok (.getfield 9, 3) := by decide +kernel
theorem dX1_copyFrom_9 : decode cX1_copyFrom 9 = .ok (.iconst 0, 1) := by decide +kernel
theorem dX1_copyFrom_10 : decode cX1_copyFrom 10 = .ok (.bipush 9, 2) := by decide +kernel
theorem dX1_copyFrom_12 : decode cX1_copyFrom 12 = .ok (.invokestatic 45, 3) := by decide +kernel
theorem dX1_copyFrom_15 : decode cX1_copyFrom 15 = .ok (.aload_n 0, 1) := by decide +kernel
theorem dX1_copyFrom_16 : decode cX1_copyFrom 16 = .ok (.aload_n 1, 1) := by decide +kernel
theorem dX1_copyFrom_17 : decode cX1_copyFrom 17 = .ok (.getfield 42, 3) := by decide +kernel
theorem dX1_copyFrom_20 : decode cX1_copyFrom 20 = .ok (.putfield 42, 3) := by decide +kernel
theorem dX1_copyFrom_23 : decode cX1_copyFrom 23 = .ok (.aload_n 0, 1) := by decide +kernel
theorem dX1_copyFrom_24 : decode cX1_copyFrom 24 = .ok (.aload_n 1, 1) := by decide +kernel
theorem dX1_copyFrom_25 : decode cX1_copyFrom 25 = .ok (.getfield 51, 3) := by decide +kernel
theorem dX1_copyFrom_28 : decode cX1_copyFrom 28 = .ok (.putfield 51, 3) := by decide +kernel
theorem dX1_copyFrom_31 : decode cX1_copyFrom 31 = .ok (.aload_n 0, 1) := by decide +kernel
theorem dX1_copyFrom_32 : decode cX1_copyFrom 32 = .ok (.aload_n 1, 1) := by decide +kernel
theorem dX1_copyFrom_33 : decode cX1_copyFrom 33 = .ok (.getfield 54, 3) := by decide +kernel
theorem dX1_copyFrom_36 : decode cX1_copyFrom 36 = .ok (.putfield 54, 3) := by decide +kernel
theorem dX1_copyFrom_39 : decode cX1_copyFrom 39 = .ok (.aload_n 0, 1) := by decide +kernel
theorem dX1_copyFrom_40 : decode cX1_copyFrom 40 = .ok (.aload_n 1, 1) := by decide +kernel
theorem dX1_copyFrom_41 : decode cX1_copyFrom 41 = .ok (.getfield 57, 3) := by decide +kernel
theorem dX1_copyFrom_44 : decode cX1_copyFrom 44 = .ok (.putfield 57, 3) := by decide +kernel
theorem dX1_copyFrom_47 : decode cX1_copyFrom 47 = .ok (.aload_n 0, 1) := by decide +kernel
theorem dX1_copyFrom_48 : decode cX1_copyFrom 48 = .ok (.aload_n 1, 1) := by decide +kernel
theorem dX1_copyFrom_49 : decode cX1_copyFrom 49 = .ok (.getfield 26, 3) := by decide +kernel
theorem dX1_copyFrom_52 : decode cX1_copyFrom 52 = .ok (.putfield 26, 3) := by decide +kernel
theorem dX1_copyFrom_55 : decode cX1_copyFrom 55 = .ok (.aload_n 0, 1) := by decide +kernel
theorem dX1_copyFrom_56 : decode cX1_copyFrom 56 = .ok (.aload_n 1, 1) := by decide +kernel
theorem dX1_copyFrom_57 : decode cX1_copyFrom 57 = .ok (.getfield 30, 3) := by decide +kernel
theorem dX1_copyFrom_60 : decode cX1_copyFrom 60 = .ok (.putfield 30, 3) := by decide +kernel
theorem dX1_copyFrom_63 : decode cX1_copyFrom 63 = .ok (.aload_n 0, 1) := by decide +kernel
theorem dX1_copyFrom_64 : decode cX1_copyFrom 64 = .ok (.aload_n 1, 1) := by decide +kernel
theorem dX1_copyFrom_65 : decode cX1_copyFrom 65 = .ok (.getfield 33, 3) := by decide +kernel
theorem dX1_copyFrom_68 : decode cX1_copyFrom 68 = .ok (.putfield 33, 3) := by decide +kernel
theorem dX1_copyFrom_71 : decode cX1_copyFrom 71 = .ok (.aload_n 0, 1) := by decide +kernel
theorem dX1_copyFrom_72 : decode cX1_copyFrom 72 = .ok (.aload_n 1, 1) := by decide +kernel
theorem dX1_copyFrom_73 : decode cX1_copyFrom 73 = .ok (.getfield 36, 3) := by decide +kernel
theorem dX1_copyFrom_76 : decode cX1_copyFrom 76 = .ok (.putfield 36, 3) := by decide +kernel
theorem dX1_copyFrom_79 : decode cX1_copyFrom 79 = .ok (.aload_n 0, 1) := by decide +kernel
theorem dX1_copyFrom_80 : decode cX1_copyFrom 80 = .ok (.aload_n 1, 1) := by decide +kernel
theorem dX1_copyFrom_81 : decode cX1_copyFrom 81 = .ok (.getfield 39, 3) := by decide +kernel
theorem dX1_copyFrom_84 : decode cX1_copyFrom 84 = .ok (.putfield 39, 3) := by decide +kernel
theorem dX1_copyFrom_87 : decode cX1_copyFrom 87 = .ok (.return_, 1) := by decide +kernel
theorem dX1_emptyOut_0 : decode cX1_emptyOut 0 = .ok (.aload_n 0, 1) := by decide +kernel
theorem dX1_emptyOut_1 : decode cX1_emptyOut 1 = .ok (.iconst 0, 1) := by decide +kernel
theorem dX1_emptyOut_2 : decode cX1_emptyOut 2 = .ok (.putfield 42, 3) := by decide +kernel
theorem dX1_emptyOut_5 : decode cX1_emptyOut 5 = .ok (.aload_n 0, 1) := by decide +kernel
theorem dX1_emptyOut_6 : decode cX1_emptyOut 6 = .ok (.iconst 0, 1) := by decide +kernel
theorem dX1_emptyOut_7 : decode cX1_emptyOut 7 = .ok (.putfield 51, 3) := by decide +kernel
theorem dX1_emptyOut_10 : decode cX1_emptyOut 10 = .ok (.aload_n 0, 1) := by decide +kernel
theorem dX1_emptyOut_11 : decode cX1_emptyOut 11 = .ok (.iconst 0, 1) := by decide +kernel
theorem dX1_emptyOut_12 : decode cX1_emptyOut 12 = .ok (.putfield 54, 3) := by decide +kernel
theorem dX1_emptyOut_15 : decode cX1_emptyOut 15 = .ok (.aload_n 0, 1) := by decide +kernel
theorem dX1_emptyOut_16 : decode cX1_emptyOut 16 = .ok (.iconst 0, 1) := by decide +kernel
theorem dX1_emptyOut_17 : decode cX1_emptyOut 17 = .ok (.putfield 57, 3) := by decide +kernel
theorem dX1_emptyOut_20 : decode cX1_emptyOut 20 = .ok (.return_, 1) := by decide +kernel
theorem dX1_addEel_0 : decode cX1_addEel 0 = .ok (.aload_n 0, 1) := by decide +kernel
theorem dX1_addEel_1 : decode cX1_addEel 1 = .ok (.getfield 42, 3) := by decide +kernel
theorem dX1_addEel_4 : decode cX1_addEel 4 = .ok (.bipush 9, 2) := by decide +kernel
theorem dX1_addEel_6 : decode cX1_addEel 6 = .ok (.if_icmp .lt 4, 3) := by decide +kernel
theorem dX1_addEel_9 : decode cX1_addEel 9 = .ok (.return_, 1) := by decide +kernel
theorem dX1_addEel_10 : decode cX1_addEel 10 = .ok (.aload_n 0, 1) := by decide +kernel
theorem dX1_addEel_11 : decode cX1_addEel 11 = .ok (.getfield 9, 3) := by decide +kernel
theorem dX1_addEel_14 : decode cX1_addEel 14 = .ok (.aload_n 0, 1) := by decide +kernel
theorem dX1_addEel_15 : decode cX1_addEel 15 = .ok (.getfield 42, 3) := by decide +kernel
theorem dX1_addEel_18 : decode cX1_addEel 18 = .ok (.iload_n 1, 1) := by decide +kernel
theorem dX1_addEel_19 : decode cX1_addEel 19 = .ok (.iastore, 1) := by decide +kernel
theorem dX1_addEel_20 : decode cX1_addEel 20 = .ok (.aload_n 0, 1) := by decide +kernel
theorem dX1_addEel_21 : decode cX1_addEel 21 = .ok (.dup, 1) := by decide +kernel
theorem dX1_addEel_22 : decode cX1_addEel 22 = .ok (.getfield 42, 3) := by decide +kernel
theorem dX1_addEel_25 : decode cX1_addEel 25 = .ok (.iconst 1, 1) := by decide +kernel
theorem dX1_addEel_26 : decode cX1_addEel 26 = .ok (.iadd, 1) := by decide +kernel
theorem dX1_addEel_27 : decode cX1_addEel 27 = .ok (.putfield 42, 3) := by decide +kernel
theorem dX1_addEel_30 : decode cX1_addEel 30 = .ok (.aload_n 0, 1) := by decide +kernel
theorem dX1_addEel_31 : decode cX1_addEel 31 = .ok (.dup, 1) := by decide +kernel
theorem dX1_addEel_32 : decode cX1_addEel 32 = .ok (.getfield 51, 3) := by decide +kernel
theorem dX1_addEel_35 : decode cX1_addEel 35 = .ok (.iload_n 1, 1) := by decide +kernel
theorem dX1_addEel_36 : decode cX1_addEel 36 = .ok (.iadd, 1) := by decide +kernel
theorem dX1_addEel_37 : decode cX1_addEel 37 = .ok (.putfield 51, 3) := by decide +kernel
theorem dX1_addEel_40 : decode cX1_addEel 40 = .ok (.aload_n 0, 1) := by decide +kernel
theorem dX1_addEel_41 : decode cX1_addEel 41 = .ok (.aload_n 0, 1) := by decide +kernel
theorem dX1_addEel_42 : decode cX1_addEel 42 = .ok (.getfield 54, 3) := by decide +kernel
theorem dX1_addEel_45 : decode cX1_addEel 45 = .ok (.iload_n 1, 1) := by decide +kernel
theorem dX1_addEel_46 : decode cX1_addEel 46 = .ok (.invokestatic 60, 3) := by decide +kernel
theorem dX1_addEel_49 : decode cX1_addEel 49 = .ok (.putfield 54, 3) := by decide +kernel
theorem dX1_addEel_52 : decode cX1_addEel 52 = .ok (.aload_n 0, 1) := by decide +kernel
theorem dX1_addEel_53 : decode cX1_addEel 53 = .ok (.dup, 1) := by decide +kernel
theorem dX1_addEel_54 : decode cX1_addEel 54 = .ok (.getfield 57, 3) := by decide +kernel
theorem dX1_addEel_57 : decode cX1_addEel 57 = .ok (.iload_n 1, 1) := by decide +kernel
theorem dX1_addEel_58 : decode cX1_addEel 58 = .ok (.bipush 60, 2) := by decide +kernel
theorem dX1_addEel_60 : decode cX1_addEel 60 = .ok (.if_icmp .lt 7, 3) := by decide +kernel
theorem dX1_addEel_63 : decode cX1_addEel 63 = .ok (.iconst 1, 1) := by decide +kernel
theorem dX1_addEel_64 : decode cX1_addEel 64 = .ok (.goto 4, 3) := by decide +kernel
theorem dX1_addEel_67 : decode cX1_addEel 67 = .ok (.iconst 0, 1) := by decide +kernel
theorem dX1_addEel_68 : decode cX1_addEel 68 = .ok (.iadd, 1) := by decide +kernel
theorem dX1_addEel_69 : decode cX1_addEel 69 = .ok (.putfield 57, 3) := by decide +kernel
theorem dX1_addEel_72 : decode cX1_addEel 72 = .ok (.return_, 1) := by decide +kernel
theorem dX2_init_0 : decode cX2_init 0 = .ok (.aload_n 0, 1) := by decide +kernel
theorem dX2_init_1 : decode cX2_init 1 = .ok (.invokespecial 1, 3) := by decide +kernel
theorem dX2_init_4 : decode cX2_init 4 = .ok (.return_, 1) := by decide +kernel
theorem dX2_begin_0 : decode cX2_begin 0 = .ok (.aload_n 0, 1) := by decide +kernel
theorem dX2_begin_1 : decode cX2_begin 1 = .ok (.iload_n 1, 1) := by decide +kernel
theorem dX2_begin_2 : decode cX2_begin 2 = .ok (.putfield 7, 3) := by decide +kernel
theorem dX2_begin_5 : decode cX2_begin 5 = .ok (.aload_n 0, 1) := by decide +kernel
theorem dX2_begin_6 : decode cX2_begin 6 = .ok (.iload_n 2, 1) := by decide +kernel
theorem dX2_begin_7 : decode cX2_begin 7 = .ok (.putfield 13, 3) := by decide +kernel
theorem dX2_begin_10 : decode cX2_begin 10 = .ok (.aload_n 0, 1) := by decide +kernel
theorem dX2_begin_11 : decode cX2_begin 11 = .ok (.iload_n 3, 1) := by decide +kernel
theorem dX2_begin_12 : decode cX2_begin 12 = .ok (.putfield 16, 3) := by decide +kernel
theorem dX2_begin_15 : decode cX2_begin 15 = .ok (.aload_n 0, 1) := by decide +kernel
theorem dX2_begin_16 : decode cX2_begin 16 = .ok (.iconst 0, 1) := by decide +kernel
theorem dX2_begin_17 : decode cX2_begin 17 = .ok (.putfield 19, 3) := by decide +kernel
theorem dX2_begin_20 : decode cX2_begin 20 = .ok (.aload_n 0, 1) := by decide +kernel
theorem dX2_begin_21 : decode cX2_begin 21 = .ok (.iconst 0, 1) := by decide +kernel
theorem dX2_begin_22 : decode cX2_begin 22 = .ok (.putfield 22, 3) := by decide +kernel
theorem dX2_begin_25 : decode cX2_begin 25 = .ok (.return_, 1) := by decide +kernel
theorem dX2_valueOf_0 : decode cX2_valueOf 0 = .ok (.aload_n 0, 1) := by decide +kernel
theorem dX2_valueOf_1 : decode cX2_valueOf 1 = .ok (.getfield 13, 3) := by decide +kernel
theorem dX2_valueOf_4 : decode cX2_valueOf 4 = .ok (.tableswitch 97 1 4 #[32, 47, 62, 82], 32) := by decide +kernel
theorem dX2_valueOf_36 : decode cX2_valueOf 36 = .ok (.aload_n 0, 1) := by decide +kernel
theorem dX2_valueOf_37 : decode cX2_valueOf 37 = .ok (.getfield 16, 3) := by decide +kernel
theorem dX2_valueOf_40 : decode cX2_valueOf 40 = .ok (.aload_n 1, 1) := by decide +kernel
theorem dX2_valueOf_41 : decode cX2_valueOf 41 = .ok (.getfield 25, 3) := by decide +kernel
theorem dX2_valueOf_44 : decode cX2_valueOf 44 = .ok (.imul, 1) := by decide +kernel
theorem dX2_valueOf_45 : decode cX2_valueOf 45 = .ok (.i2d, 1) := by decide +kernel
theorem dX2_valueOf_46 : decode cX2_valueOf 46 = .ok (.ldc2_w 30, 3) := by decide +kernel
theorem dX2_valueOf_49 : decode cX2_valueOf 49 = .ok (.ddiv, 1) := by decide +kernel
theorem dX2_valueOf_50 : decode cX2_valueOf 50 = .ok (.dreturn, 1) := by decide +kernel
theorem dX2_valueOf_51 : decode cX2_valueOf 51 = .ok (.aload_n 0, 1) := by decide +kernel
theorem dX2_valueOf_52 : decode cX2_valueOf 52 = .ok (.getfield 16, 3) := by decide +kernel
theorem dX2_valueOf_55 : decode cX2_valueOf 55 = .ok (.aload_n 1, 1) := by decide +kernel
theorem dX2_valueOf_56 : decode cX2_valueOf 56 = .ok (.getfield 32, 3) := by decide +kernel
theorem dX2_valueOf_59 : decode cX2_valueOf 59 = .ok (.imul, 1) := by decide +kernel
theorem dX2_valueOf_60 : decode cX2_valueOf 60 = .ok (.i2d, 1) := by decide +kernel
theorem dX2_valueOf_61 : decode cX2_valueOf 61 = .ok (.ldc2_w 35, 3) := by decide +kernel
theorem dX2_valueOf_64 : decode cX2_valueOf 64 = .ok (.ddiv, 1) := by decide +kernel
theorem dX2_valueOf_65 : decode cX2_valueOf 65 = .ok (.dreturn, 1) := by decide +kernel
theorem dX2_valueOf_66 : decode cX2_valueOf 66 = .ok (.aload_n 0, 1) := by decide +kernel
theorem dX2_valueOf_67 : decode cX2_valueOf 67 = .ok (.getfield 16, 3) := by decide +kernel
theorem dX2_valueOf_70 : decode cX2_valueOf 70 = .ok (.aload_n 1, 1) := by decide +kernel
theorem dX2_valueOf_71 : decode cX2_valueOf 71 = .ok (.getfield 37, 3) := by decide +kernel
theorem dX2_valueOf_74 : decode cX2_valueOf 74 = .ok (.imul, 1) := by decide +kernel
theorem dX2_valueOf_75 : decode cX2_valueOf 75 = .ok (.aload_n 1, 1) := by decide +kernel
theorem dX2_valueOf_76 : decode cX2_valueOf 76 = .ok (.getfield 32, 3) := by decide +kernel
theorem dX2_valueOf_79 : decode cX2_valueOf 79 = .ok (.imul, 1) := by decide +kernel
theorem dX2_valueOf_80 : decode cX2_valueOf 80 = .ok (.i2d, 1) := by decide +kernel
theorem dX2_valueOf_81 : decode cX2_valueOf 81 = .ok (.ldc2_w 30, 3) := by decide +kernel
theorem dX2_valueOf_84 : decode cX2_valueOf 84 = .ok (.ddiv, 1) := by decide +kernel
theorem dX2_valueOf_85 : decode cX2_valueOf 85 = .ok (.dreturn, 1) := by decide +kernel
theorem dX2_valueOf_86 : decode cX2_valueOf 86 = .ok (.aload_n 0, 1) := by decide +kernel
theorem dX2_valueOf_87 : decode cX2_valueOf 87 = .ok (.getfield 16, 3) := by decide +kernel
theorem dX2_valueOf_90 : decode cX2_valueOf 90 = .ok (.aload_n 1, 1) := by decide +kernel
theorem dX2_valueOf_91 : decode cX2_valueOf 91 = .ok (.getfield 40, 3) := by decide +kernel
theorem dX2_valueOf_94 : decode cX2_valueOf 94 = .ok (.imul, 1) := by decide +kernel
theorem dX2_valueOf_95 : decode cX2_valueOf 95 = .ok (.i2d, 1) := by decide +kernel
theorem dX2_valueOf_96 : decode cX2_valueOf 96 = .ok (.ldc2_w 43, 3) := by decide +kernel
theorem dX2_valueOf_99 : decode cX2_valueOf 99 = .ok (.ddiv, 1) := by decide +kernel
theorem dX2_valueOf_100 : decode cX2_valueOf 100 = .ok (.dreturn, 1) := by decide +kernel
theorem dX2_valueOf_101 : decode cX2_valueOf 101 = .ok (.dconst 0, 1) := by decide +kernel
theorem dX2_valueOf_102 : decode cX2_valueOf 102 = .ok (.dreturn, 1) := by decide +kernel
theorem dX2_copyFrom_0 : decode cX2_copyFrom 0 = .ok (.aload_n 0, 1) := by decide +kernel
theorem dX2_copyFrom_1 : decode cX2_copyFrom 1 = .ok (.aload_n 1, 1) := by decide +kernel
theorem dX2_copyFrom_2 : decode cX2_copyFrom 2 = .ok (.getfield 7, 3) := by decide +kernel
theorem dX2_copyFrom_5 : decode cX2_copyFrom 5 = .ok (.putfield 7, 3) := by decide +kernel
theorem dX2_copyFrom_8 : decode cX2_copyFrom 8 = .ok (.aload_n 0, 1) := by decide +kernel
theorem dX2_copyFrom_9 : decode cX2_copyFrom 9 = .ok (.aload_n 1, 1) := by decide +kernel
theorem dX2_copyFrom_10 : decode cX2_copyFrom 10 = .ok (.getfield 13, 3) := by decide +kernel
theorem dX2_copyFrom_13 : decode cX2_copyFrom 13 = .ok (.putfield 13, 3) := by decide +kernel
theorem dX2_copyFrom_16 : decode cX2_copyFrom 16 = .ok (.aload_n 0, 1) := by decide +kernel
theorem dX2_copyFrom_17 : decode cX2_copyFrom 17 = .ok (.aload_n 1, 1) := by decide +kernel
theorem dX2_copyFrom_18 : decode cX2_copyFrom 18 = .ok (.getfield 16, 3) := by decide +kernel
theorem dX2_copyFrom_21 : decode cX2_copyFrom 21 = .ok (.putfield 16, 3) := by decide +kernel
theorem dX2_copyFrom_24 : decode cX2_copyFrom 24 = .ok (.aload_n 0, 1) := by decide +kernel
theorem dX2_copyFrom_25 : decode cX2_copyFrom 25 = .ok (.aload_n 1, 1) := by decide +kernel
theorem dX2_copyFrom_26 : decode cX2_copyFrom 26 = .ok (.getfield 19, 3) := by decide +kernel
theorem dX2_copyFrom_29 : decode cX2_copyFrom 29 = .ok (.putfield 19, 3) := by decide +kernel
theorem dX2_copyFrom_32 : decode cX2_copyFrom 32 = .ok (.aload_n 0, 1) := by decide +kernel
theorem dX2_copyFrom_33 : decode cX2_copyFrom 33 = .ok (.aload_n 1, 1) := by decide +kernel
theorem dX2_copyFrom_34 : decode cX2_copyFrom 34 = .ok (.getfield 22, 3) := by decide +kernel
theorem dX2_copyFrom_37 : decode cX2_copyFrom 37 = .ok (.putfield 22, 3) := by decide +kernel
theorem dX2_copyFrom_40 : decode cX2_copyFrom 40 = .ok (.return_, 1) := by decide +kernel
theorem dX3_init_0 : decode cX3_init 0 = .ok (.aload_n 0, 1) := by decide +kernel
theorem dX3_init_1 : decode cX3_init 1 = .ok (.invokespecial 3, 3) := by decide +kernel
theorem dX3_init_4 : decode cX3_init 4 = .ok (.aload_n 0, 1) := by decide +kernel
theorem dX3_init_5 : decode cX3_init 5 = .ok (.getstatic 9, 3) := by decide +kernel
theorem dX3_init_8 : decode cX3_init 8 = .ok (.putfield 15, 3) := by decide +kernel
theorem dX3_init_11 : decode cX3_init 11 = .ok (.aload_n 0, 1) := by decide +kernel
theorem dX3_init_12 : decode cX3_init 12 = .ok (.bipush 9, 2) := by decide +kernel
theorem dX3_init_14 : decode cX3_init 14 = .ok (.newarray .int, 2) := by decide +kernel
theorem dX3_init_16 : decode cX3_init 16 = .ok (.putfield 20, 3) := by decide +kernel
theorem dX3_init_19 : decode cX3_init 19 = .ok (.return_, 1) := by decide +kernel
theorem dX4_init_0 : decode cX4_init 0 = .ok (.aload_n 0, 1) := by decide +kernel
theorem dX4_init_1 : decode cX4_init 1 = .ok (.invokespecial 3, 3) := by decide +kernel
theorem dX4_init_4 : decode cX4_init 4 = .ok (.aload_n 0, 1) := by decide +kernel
theorem dX4_init_5 : decode cX4_init 5 = .ok (.bipush 8, 2) := by decide +kernel
theorem dX4_init_7 : decode cX4_init 7 = .ok (.anewarray 9, 3) := by decide +kernel
theorem dX4_init_10 : decode cX4_init 10 = .ok (.putfield 11, 3) := by decide +kernel
theorem dX4_init_13 : decode cX4_init 13 = .ok (.iconst 0, 1) := by decide +kernel
theorem dX4_init_14 : decode cX4_init 14 = .ok (.istore_n 1, 1) := by decide +kernel
theorem dX4_init_15 : decode cX4_init 15 = .ok (.iload_n 1, 1) := by decide +kernel
theorem dX4_init_16 : decode cX4_init 16 = .ok (.bipush 8, 2) := by decide +kernel
theorem dX4_init_18 : decode cX4_init 18 = .ok (.if_icmp .ge 22, 3) := by decide +kernel
theorem dX4_init_21 : decode cX4_init 21 = .ok (.aload_n 0, 1) := by decide +kernel
theorem dX4_init_22 : decode cX4_init 22 = .ok (.getfield 11, 3) := by decide +kernel
theorem dX4_init_25 : decode cX4_init 25 = .ok (.iload_n 1, 1) := by decide +kernel
theorem dX4_init_26 : decode cX4_init 26 = .ok (.new 9, 3) := by decide +kernel
theorem dX4_init_29 : decode cX4_init 29 = .ok (.dup, 1) := by decide +kernel
theorem dX4_init_30 : decode cX4_init 30 = .ok (.invokespecial 17, 3) := by decide +kernel
theorem dX4_init_33 : decode cX4_init 33 = .ok (.aastore, 1) := by decide +kernel
theorem dX4_init_34 : decode cX4_init 34 = .ok (.iinc 1 1, 3) := by decide +kernel
theorem dX4_init_37 : decode cX4_init 37 = .ok (.goto (-22), 3) := by decide +kernel
theorem dX4_init_40 : decode cX4_init 40 = .ok (.return_, 1) := by decide +kernel
theorem dX4_remember_0 : decode cX4_remember 0 = .ok (.aload_n 0, 1) := by decide +kernel
theorem dX4_remember_1 : decode cX4_remember 1 = .ok (.getfield 11, 3) := by decide +kernel
theorem dX4_remember_4 : decode cX4_remember 4 = .ok (.aload_n 0, 1) := by decide +kernel
theorem dX4_remember_5 : decode cX4_remember 5 = .ok (.getfield 18, 3) := by decide +kernel
theorem dX4_remember_8 : decode cX4_remember 8 = .ok (.aaload, 1) := by decide +kernel
theorem dX4_remember_9 : decode cX4_remember 9 = .ok (.aload_n 1, 1) := by decide +kernel
theorem dX4_remember_10 : decode cX4_remember 10 = .ok (.invokevirtual 22, 3) := by decide +kernel
theorem dX4_remember_13 : decode cX4_remember 13 = .ok (.aload_n 0, 1) := by decide +kernel
theorem dX4_remember_14 : decode cX4_remember 14 = .ok (.aload_n 0, 1) := by decide +kernel
theorem dX4_remember_15 : decode cX4_remember 15 = .ok (.getfield 18, 3) := by decide +kernel
theorem dX4_remember_18 : decode cX4_remember 18 = .ok (.iconst 1, 1) := by decide +kernel
theorem dX4_remember_19 : decode cX4_remember 19 = .ok (.iadd, 1) := by decide +kernel
theorem dX4_remember_20 : decode cX4_remember 20 = .ok (.bipush 8, 2) := by decide +kernel
theorem dX4_remember_22 : decode cX4_remember 22 = .ok (.irem, 1) := by decide +kernel
theorem dX4_remember_23 : decode cX4_remember 23 = .ok (.putfield 18, 3) := by decide +kernel
theorem dX4_remember_26 : decode cX4_remember 26 = .ok (.aload_n 0, 1) := by decide +kernel
theorem dX4_remember_27 : decode cX4_remember 27 = .ok (.aload_n 0, 1) := by decide +kernel
theorem dX4_remember_28 : decode cX4_remember 28 = .ok (.getfield 26, 3) := by decide +kernel
theorem dX4_remember_31 : decode cX4_remember 31 = .ok (.iconst 1, 1) := by decide +kernel
theorem dX4_remember_32 : decode cX4_remember 32 = .ok (.iadd, 1) := by decide +kernel
theorem dX4_remember_33 : decode cX4_remember 33 = .ok (.bipush 8, 2) := by decide +kernel
theorem dX4_remember_35 : decode cX4_remember 35 = .ok (.invokestatic 29, 3) := by decide +kernel
theorem dX4_remember_38 : decode cX4_remember 38 = .ok (.putfield 26, 3) := by decide +kernel
theorem dX4_remember_41 : decode cX4_remember 41 = .ok (.return_, 1) := by decide +kernel
theorem dX4_takeBack_0 : decode cX4_takeBack 0 = .ok (.aload_n 0, 1) := by decide +kernel
theorem dX4_takeBack_1 : decode cX4_takeBack 1 = .ok (.getfield 26, 3) := by decide +kernel
theorem dX4_takeBack_4 : decode cX4_takeBack 4 = .ok (.ifCond .le 42, 3) := by decide +kernel
theorem dX4_takeBack_7 : decode cX4_takeBack 7 = .ok (.aload_n 0, 1) := by decide +kernel
theorem dX4_takeBack_8 : decode cX4_takeBack 8 = .ok (.aload_n 0, 1) := by decide +kernel
theorem dX4_takeBack_9 : decode cX4_takeBack 9 = .ok (.getfield 18, 3) := by decide +kernel
theorem dX4_takeBack_12 : decode cX4_takeBack 12 = .ok (.bipush 8, 2) := by decide +kernel
theorem dX4_takeBack_14 : decode cX4_takeBack 14 = .ok (.iadd, 1) := by decide +kernel
theorem dX4_takeBack_15 : decode cX4_takeBack 15 = .ok (.iconst 1, 1) := by decide +kernel
theorem dX4_takeBack_16 : decode cX4_takeBack 16 = .ok (.isub, 1) := by decide +kernel
theorem dX4_takeBack_17 : decode cX4_takeBack 17 = .ok (.bipush 8, 2) := by decide +kernel
theorem dX4_takeBack_19 : decode cX4_takeBack 19 = .ok (.irem, 1) := by decide +kernel
theorem dX4_takeBack_20 : decode cX4_takeBack 20 = .ok (.putfield 18, 3) := by decide +kernel
theorem dX4_takeBack_23 : decode cX4_takeBack 23 = .ok (.aload_n 0, 1) := by decide +kernel
theorem dX4_takeBack_24 : decode cX4_takeBack 24 = .ok (.dup, 1) := by decide +kernel
theorem dX4_takeBack_25 : decode cX4_takeBack 25 = .ok (.getfield 26, 3) := by decide +kernel
theorem dX4_takeBack_28 : decode cX4_takeBack 28 = .ok (.iconst 1, 1) := by decide +kernel
theorem dX4_takeBack_29 : decode cX4_takeBack 29 = .ok (.isub, 1) := by decide +kernel
theorem dX4_takeBack_30 : decode cX4_takeBack 30 = .ok (.putfield 26, 3) := by decide +kernel
theorem dX4_takeBack_33 : decode cX4_takeBack 33 = .ok (.aload_n 1, 1) := by decide +kernel
theorem dX4_takeBack_34 : decode cX4_takeBack 34 = .ok (.aload_n 0, 1) := by decide +kernel
theorem dX4_takeBack_35 : decode cX4_takeBack 35 = .ok (.getfield 11, 3) := by decide +kernel
theorem dX4_takeBack_38 : decode cX4_takeBack 38 = .ok (.aload_n 0, 1) := by decide +kernel
theorem dX4_takeBack_39 : decode cX4_takeBack 39 = .ok (.getfield 18, 3) := by decide +kernel
theorem dX4_takeBack_42 : decode cX4_takeBack 42 = .ok (.aaload, 1) := by decide +kernel
theorem dX4_takeBack_43 : decode cX4_takeBack 43 = .ok (.invokevirtual 22, 3) := by decide +kernel
theorem dX4_takeBack_46 : decode cX4_takeBack 46 = .ok (.return_, 1) := by decide +kernel
theorem dX5_init_0 : decode cX5_init 0 = .ok (.aload_n 0, 1) := by decide +kernel
theorem dX5_init_1 : decode cX5_init 1 = .ok (.invokespecial 3, 3) := by decide +kernel
theorem dX5_init_4 : decode cX5_init 4 = .ok (.aload_n 0, 1) := by decide +kernel
theorem dX5_init_5 : decode cX5_init 5 = .ok (.sipush 500, 3) := by decide +kernel
theorem dX5_init_8 : decode cX5_init 8 = .ok (.newarray .int, 2) := by decide +kernel
theorem dX5_init_10 : decode cX5_init 10 = .ok (.putfield 9, 3) := by decide +kernel
theorem dX5_init_13 : decode cX5_init 13 = .ok (.return_, 1) := by decide +kernel
theorem dX5_addFour_0 : decode cX5_addFour 0 = .ok (.bipush 24, 2) := by decide +kernel
theorem dX5_addFour_2 : decode cX5_addFour 2 = .ok (.istore_n 2, 1) := by decide +kernel
theorem dX5_addFour_3 : decode cX5_addFour 3 = .ok (.iload_n 2, 1) := by decide +kernel
theorem dX5_addFour_4 : decode cX5_addFour 4 = .ok (.ifCond .lt 20, 3) := by decide +kernel
theorem dX5_addFour_7 : decode cX5_addFour 7 = .ok (.aload_n 0, 1) := by decide +kernel
theorem dX5_addFour_8 : decode cX5_addFour 8 = .ok (.iload_n 1, 1) := by decide +kernel
theorem dX5_addFour_9 : decode cX5_addFour 9 = .ok (.iload_n 2, 1) := by decide +kernel
theorem dX5_addFour_10 : decode cX5_addFour 10 = .ok (.iushr, 1) := by decide +kernel
theorem dX5_addFour_11 : decode cX5_addFour 11 = .ok (.sipush 255, 3) := by decide +kernel
theorem dX5_addFour_14 : decode cX5_addFour 14 = .ok (.iand, 1) := by decide +kernel
theorem dX5_addFour_15 : decode cX5_addFour 15 = .ok (.invokevirtual 15, 3) := by decide +kernel
theorem dX5_addFour_18 : decode cX5_addFour 18 = .ok (.iinc 2 (-8), 3) := by decide +kernel
theorem dX5_addFour_21 : decode cX5_addFour 21 = .ok (.goto (-18), 3) := by decide +kernel
theorem dX5_addFour_24 : decode cX5_addFour 24 = .ok (.return_, 1) := by decide +kernel
theorem dX5_addSigns_0 : decode cX5_addSigns 0 = .ok (.iconst 0, 1) := by decide +kernel
theorem dX5_addSigns_1 : decode cX5_addSigns 1 = .ok (.istore_n 2, 1) := by decide +kernel
theorem dX5_addSigns_2 : decode cX5_addSigns 2 = .ok (.iload_n 2, 1) := by decide +kernel
theorem dX5_addSigns_3 : decode cX5_addSigns 3 = .ok (.aload_n 1, 1) := by decide +kernel
theorem dX5_addSigns_4 : decode cX5_addSigns 4 = .ok (.invokevirtual 19, 3) := by decide +kernel
theorem dX5_addSigns_7 : decode cX5_addSigns 7 = .ok (.if_icmp .ge 18, 3) := by decide +kernel
theorem dX5_addSigns_10 : decode cX5_addSigns 10 = .ok (.aload_n 0, 1) := by decide +kernel
theorem dX5_addSigns_11 : decode cX5_addSigns 11 = .ok (.aload_n 1, 1) := by decide +kernel
theorem dX5_addSigns_12 : decode cX5_addSigns 12 = .ok (.iload_n 2, 1) := by decide +kernel
theorem dX5_addSigns_13 : decode cX5_addSigns 13 = .ok (.invokevirtual 25, 3) := by decide +kernel
theorem dX5_addSigns_16 : decode cX5_addSigns 16 = .ok (.invokevirtual 15, 3) := by decide +kernel
theorem dX5_addSigns_19 : decode cX5_addSigns 19 = .ok (.iinc 2 1, 3) := by decide +kernel
theorem dX5_addSigns_22 : decode cX5_addSigns 22 = .ok (.goto (-20), 3) := by decide +kernel
theorem dX5_addSigns_25 : decode cX5_addSigns 25 = .ok (.return_, 1) := by decide +kernel
theorem dX5_restart_0 : decode cX5_restart 0 = .ok (.aload_n 0, 1) := by decide +kernel
theorem dX5_restart_1 : decode cX5_restart 1 = .ok (.iconst 0, 1) := by decide +kernel
theorem dX5_restart_2 : decode cX5_restart 2 = .ok (.putfield 29, 3) := by decide +kernel
theorem dX5_restart_5 : decode cX5_restart 5 = .ok (.aload_n 0, 1) := by decide +kernel
theorem dX5_restart_6 : decode cX5_restart 6 = .ok (.invokevirtual 33, 3) := by decide +kernel
theorem dX5_restart_9 : decode cX5_restart 9 = .ok (.return_, 1) := by decide +kernel
theorem dX5_advance_0 : decode cX5_advance 0 = .ok (.aload_n 0, 1) := by decide +kernel
theorem dX5_advance_1 : decode cX5_advance 1 = .ok (.aload_n 0, 1) := by decide +kernel
theorem dX5_advance_2 : decode cX5_advance 2 = .ok (.getfield 29, 3) := by decide +kernel
theorem dX5_advance_5 : decode cX5_advance 5 = .ok (.putfield 36, 3) := by decide +kernel
theorem dX5_advance_8 : decode cX5_advance 8 = .ok (.aload_n 0, 1) := by decide +kernel
theorem dX5_advance_9 : decode cX5_advance 9 = .ok (.getfield 36, 3) := by decide +kernel
theorem dX5_advance_12 : decode cX5_advance 12 = .ok (.aload_n 0, 1) := by decide +kernel
theorem dX5_advance_13 : decode cX5_advance 13 = .ok (.getfield 39, 3) := by decide +kernel
theorem dX5_advance_16 : decode cX5_advance 16 = .ok (.if_icmp .ge 30, 3) := by decide +kernel
theorem dX5_advance_19 : decode cX5_advance 19 = .ok (.aload_n 0, 1) := by decide +kernel
theorem dX5_advance_20 : decode cX5_advance 20 = .ok (.getfield 9, 3) := by decide +kernel
theorem dX5_advance_23 : decode cX5_advance 23 = .ok (.aload_n 0, 1) := by decide +kernel
theorem dX5_advance_24 : decode cX5_advance 24 = .ok (.getfield 36, 3) := by decide +kernel
theorem dX5_advance_27 : decode cX5_advance 27 = .ok (.iaload, 1) := by decide +kernel
theorem dX5_advance_28 : decode cX5_advance 28 = .ok (.bipush 32, 2) := by decide +kernel
theorem dX5_advance_30 : decode cX5_advance 30 = .ok (.if_icmp .ne 16, 3) := by decide +kernel
theorem dX5_advance_33 : decode cX5_advance 33 = .ok (.aload_n 0, 1) := by decide +kernel
theorem dX5_advance_34 : decode cX5_advance 34 = .ok (.dup, 1) := by decide +kernel
theorem dX5_advance_35 : decode cX5_advance 35 = .ok (.getfield 36, 3) := by decide +kernel
theorem dX5_advance_38 : decode cX5_advance 38 = .ok (.iconst 1, 1) := by decide +kernel
theorem dX5_advance_39 : decode cX5_advance 39 = .ok (.iadd, 1) := by decide +kernel
theorem dX5_advance_40 : decode cX5_advance 40 = .ok (.putfield 36, 3) := by decide +kernel
theorem dX5_advance_43 : decode cX5_advance 43 = .ok (.goto (-35), 3) := by decide +kernel
theorem dX5_advance_46 : decode cX5_advance 46 = .ok (.aload_n 0, 1) := by decide +kernel
theorem dX5_advance_47 : decode cX5_advance 47 = .ok (.aload_n 0, 1) := by decide +kernel
theorem dX5_advance_48 : decode cX5_advance 48 = .ok (.getfield 36, 3) := by decide +kernel
theorem dX5_advance_51 : decode cX5_advance 51 = .ok (.putfield 29, 3) := by decide +kernel
theorem dX5_advance_54 : decode cX5_advance 54 = .ok (.aload_n 0, 1) := by decide +kernel
theorem dX5_advance_55 : decode cX5_advance 55 = .ok (.aload_n 0, 1) := by decide +kernel
theorem dX5_advance_56 : decode cX5_advance 56 = .ok (.aload_n 0, 1) := by decide +kernel
theorem dX5_advance_57 : decode cX5_advance 57 = .ok (.getfield 36, 3) := by decide +kernel
theorem dX5_advance_60 : decode cX5_advance 60 = .ok (.invokevirtual 42, 3) := by decide +kernel
theorem dX5_advance_63 : decode cX5_advance 63 = .ok (.putfield 46, 3) := by decide +kernel
theorem dX5_advance_66 : decode cX5_advance 66 = .ok (.aload_n 0, 1) := by decide +kernel
theorem dX5_advance_67 : decode cX5_advance 67 = .ok (.iconst 0, 1) := by decide +kernel
theorem dX5_advance_68 : decode cX5_advance 68 = .ok (.putfield 49, 3) := by decide +kernel
theorem dX5_advance_71 : decode cX5_advance 71 = .ok (.aload_n 0, 1) := by decide +kernel
theorem dX5_advance_72 : decode cX5_advance 72 = .ok (.getfield 46, 3) := by decide +kernel
theorem dX5_advance_75 : decode cX5_advance 75 = .ok (.iconst 1, 1) := by decide +kernel
theorem dX5_advance_76 : decode cX5_advance 76 = .ok (.if_icmp .eq 11, 3) := by decide +kernel
theorem dX5_advance_79 : decode cX5_advance 79 = .ok (.aload_n 0, 1) := by decide +kernel
theorem dX5_advance_80 : decode cX5_advance 80 = .ok (.getfield 46, 3) := by decide +kernel
theorem dX5_advance_83 : decode cX5_advance 83 = .ok (.iconst 2, 1) := by decide +kernel
theorem dX5_advance_84 : decode cX5_advance 84 = .ok (.if_icmp .ne 7, 3) := by decide +kernel
theorem dX5_advance_87 : decode cX5_advance 87 = .ok (.iconst 1, 1) := by decide +kernel
theorem dX5_advance_88 : decode cX5_advance 88 = .ok (.goto 4, 3) := by decide +kernel
theorem dX5_advance_91 : decode cX5_advance 91 = .ok (.iconst 0, 1) := by decide +kernel
theorem dX5_advance_92 : decode cX5_advance 92 = .ok (.istore_n 1, 1) := by decide +kernel
theorem dX5_advance_93 : decode cX5_advance 93 = .ok (.aload_n 0, 1) := by decide +kernel
theorem dX5_advance_94 : decode cX5_advance 94 = .ok (.getfield 29, 3) := by decide +kernel
theorem dX5_advance_97 : decode cX5_advance 97 = .ok (.aload_n 0, 1) := by decide +kernel
theorem dX5_advance_98 : decode cX5_advance 98 = .ok (.getfield 39, 3) := by decide +kernel
theorem dX5_advance_101 : decode cX5_advance 101 = .ok (.if_icmp .ge 83, 3) := by decide +kernel
theorem dX5_advance_104 : decode cX5_advance 104 = .ok (.aload_n 0, 1) := by decide +kernel
theorem dX5_advance_105 : decode cX5_advance 105 = .ok (.aload_n 0, 1) := by decide +kernel
theorem dX5_advance_106 : decode cX5_advance 106 = .ok (.getfield 29, 3) := by decide +kernel
theorem dX5_advance_109 : decode cX5_advance 109 = .ok (.invokevirtual 42, 3) := by decide +kernel
theorem dX5_advance_112 : decode cX5_advance 112 = .ok (.aload_n 0, 1) := by decide +kernel
theorem dX5_advance_113 : decode cX5_advance 113 = .ok (.getfield 46, 3) := by decide +kernel
theorem dX5_advance_116 : decode cX5_advance 116 = .ok (.if_icmp .ne 68, 3) := by decide +kernel
theorem dX5_advance_119 : decode cX5_advance 119 = .ok (.iload_n 1, 1) := by decide +kernel
theorem dX5_advance_120 : decode cX5_advance 120 = .ok (.ifCond .ne 14, 3) := by decide +kernel
theorem dX5_advance_123 : decode cX5_advance 123 = .ok (.aload_n 0, 1) := by decide +kernel
theorem dX5_advance_124 : decode cX5_advance 124 = .ok (.getfield 29, 3) := by decide +kernel
theorem dX5_advance_127 : decode cX5_advance 127 = .ok (.aload_n 0, 1) := by decide +kernel
theorem dX5_advance_128 : decode cX5_advance 128 = .ok (.getfield 36, 3) := by decide +kernel
theorem dX5_advance_131 : decode cX5_advance 131 = .ok (.if_icmp .ne 53, 3) := by decide +kernel
theorem dX5_advance_134 : decode cX5_advance 134 = .ok (.aload_n 0, 1) := by decide +kernel
theorem dX5_advance_135 : decode cX5_advance 135 = .ok (.getfield 46, 3) := by decide +kernel
theorem dX5_advance_138 : decode cX5_advance 138 = .ok (.iconst 2, 1) := by decide +kernel
theorem dX5_advance_139 : decode cX5_advance 139 = .ok (.if_icmp .ne 32, 3) := by decide +kernel
theorem dX5_advance_142 : decode cX5_advance 142 = .ok (.aload_n 0, 1) := by decide +kernel
theorem dX5_advance_143 : decode cX5_advance 143 = .ok (.aload_n 0, 1) := by decide +kernel
theorem dX5_advance_144 : decode cX5_advance 144 = .ok (.getfield 49, 3) := by decide +kernel
theorem dX5_advance_147 : decode cX5_advance 147 = .ok (.bipush 10, 2) := by decide +kernel
theorem dX5_advance_149 : decode cX5_advance 149 = .ok (.imul, 1) := by decide +kernel
theorem dX5_advance_150 : decode cX5_advance 150 = .ok (.aload_n 0, 1) := by decide +kernel
theorem dX5_advance_151 : decode cX5_advance 151 = .ok (.getfield 9, 3) := by decide +kernel
theorem dX5_advance_154 : decode cX5_advance 154 = .ok (.aload_n 0, 1) := by decide +kernel
theorem dX5_advance_155 : decode cX5_advance 155 = .ok (.getfield 29, 3) := by decide +kernel
theorem dX5_advance_158 : decode cX5_advance 158 = .ok (.iaload, 1) := by decide +kernel
theorem dX5_advance_159 : decode cX5_advance 159 = .ok (.bipush 48, 2) := by decide +kernel
theorem dX5_advance_161 : decode cX5_advance 161 = .ok (.isub, 1) := by decide +kernel
theorem dX5_advance_162 : decode cX5_advance 162 = .ok (.iadd, 1) := by decide +kernel
theorem dX5_advance_163 : decode cX5_advance 163 = .ok (.ldc 52, 2) := by decide +kernel
theorem dX5_advance_165 : decode cX5_advance 165 = .ok (.invokestatic 53, 3) := by decide +kernel
theorem dX5_advance_168 : decode cX5_advance 168 = .ok (.putfield 49, 3) := by decide +kernel
theorem dX5_advance_171 : decode cX5_advance 171 = .ok (.aload_n 0, 1) := by decide +kernel
theorem dX5_advance_172 : decode cX5_advance 172 = .ok (.dup, 1) := by decide +kernel
theorem dX5_advance_173 : decode cX5_advance 173 = .ok (.getfield 29, 3) := by decide +kernel
theorem dX5_advance_176 : decode cX5_advance 176 = .ok (.iconst 1, 1) := by decide +kernel
theorem dX5_advance_177 : decode cX5_advance 177 = .ok (.iadd, 1) := by decide +kernel
theorem dX5_advance_178 : decode cX5_advance 178 = .ok (.putfield 29, 3) := by decide +kernel
theorem dX5_advance_181 : decode cX5_advance 181 = .ok (.goto (-88), 3) := by decide +kernel
theorem dX5_advance_184 : decode cX5_advance 184 = .ok (.return_, 1) := by decide +kernel
theorem dX5_isWord_0 : decode cX5_isWord 0 = .ok (.aload_n 0, 1) := by decide +kernel
theorem dX5_isWord_1 : decode cX5_isWord 1 = .ok (.getfield 46, 3) := by decide +kernel
theorem dX5_isWord_4 : decode cX5_isWord 4 = .ok (.iconst 1, 1) := by decide +kernel
theorem dX5_isWord_5 : decode cX5_isWord 5 = .ok (.if_icmp .ne 19, 3) := by decide +kernel
theorem dX5_isWord_8 : decode cX5_isWord 8 = .ok (.aload_n 0, 1) := by decide +kernel
theorem dX5_isWord_9 : decode cX5_isWord 9 = .ok (.getfield 29, 3) := by decide +kernel
theorem dX5_isWord_12 : decode cX5_isWord 12 = .ok (.aload_n 0, 1) := by decide +kernel
theorem dX5_isWord_13 : decode cX5_isWord 13 = .ok (.getfield 36, 3) := by decide +kernel
theorem dX5_isWord_16 : decode cX5_isWord 16 = .ok (.isub, 1) := by decide +kernel
theorem dX5_isWord_17 : decode cX5_isWord 17 = .ok (.aload_n 1, 1) := by decide +kernel
theorem dX5_isWord_18 : decode cX5_isWord 18 = .ok (.invokevirtual 19, 3) := by decide +kernel
theorem dX5_isWord_21 : decode cX5_isWord 21 = .ok (.if_icmp .eq 5, 3) := by decide +kernel
theorem dX5_isWord_24 : decode cX5_isWord 24 = .ok (.iconst 0, 1) := by decide +kernel
theorem dX5_isWord_25 : decode cX5_isWord 25 = .ok (.ireturn, 1) := by decide +kernel
theorem dX5_isWord_26 : decode cX5_isWord 26 = .ok (.iconst 0, 1) := by decide +kernel
theorem dX5_isWord_27 : decode cX5_isWord 27 = .ok (.istore_n 2, 1) := by decide +kernel
theorem dX5_isWord_28 : decode cX5_isWord 28 = .ok (.iload_n 2, 1) := by decide +kernel
theorem dX5_isWord_29 : decode cX5_isWord 29 = .ok (.aload_n 1, 1) := by decide +kernel
theorem dX5_isWord_30 : decode cX5_isWord 30 = .ok (.invokevirtual 19, 3) := by decide +kernel
theorem dX5_isWord_33 : decode cX5_isWord 33 = .ok (.if_icmp .ge 30, 3) := by decide +kernel
theorem dX5_isWord_36 : decode cX5_isWord 36 = .ok (.aload_n 0, 1) := by decide +kernel
theorem dX5_isWord_37 : decode cX5_isWord 37 = .ok (.getfield 9, 3) := by decide +kernel
theorem dX5_isWord_40 : decode cX5_isWord 40 = .ok (.aload_n 0, 1) := by decide +kernel
theorem dX5_isWord_41 : decode cX5_isWord 41 = .ok (.getfield 36, 3) := by decide +kernel
theorem dX5_isWord_44 : decode cX5_isWord 44 = .ok (.iload_n 2, 1) := by decide +kernel
theorem dX5_isWord_45 : decode cX5_isWord 45 = .ok (.iadd, 1) := by decide +kernel
theorem dX5_isWord_46 : decode cX5_isWord 46 = .ok (.iaload, 1) := by decide +kernel
theorem dX5_isWord_47 : decode cX5_isWord 47 = .ok (.aload_n 1, 1) := by decide +kernel
theorem dX5_isWord_48 : decode cX5_isWord 48 = .ok (.iload_n 2, 1) := by decide +kernel
theorem dX5_isWord_49 : decode cX5_isWord 49 = .ok (.invokevirtual 25, 3) := by decide +kernel
theorem dX5_isWord_52 : decode cX5_isWord 52 = .ok (.if_icmp .eq 5, 3) := by decide +kernel
theorem dX5_isWord_55 : decode cX5_isWord 55 = .ok (.iconst 0, 1) := by decide +kernel
theorem dX5_isWord_56 : decode cX5_isWord 56 = .ok (.ireturn, 1) := by decide +kernel
theorem dX5_isWord_57 : decode cX5_isWord 57 = .ok (.iinc 2 1, 3) := by decide +kernel
theorem dX5_isWord_60 : decode cX5_isWord 60 = .ok (.goto (-32), 3) := by decide +kernel
theorem dX5_isWord_63 : decode cX5_isWord 63 = .ok (.iconst 1, 1) := by decide +kernel
theorem dX5_isWord_64 : decode cX5_isWord 64 = .ok (.ireturn, 1) := by decide +kernel
theorem dX5_addByte_0 : decode cX5_addByte 0 = .ok (.aload_n 0, 1) := by decide +kernel
theorem dX5_addByte_1 : decode cX5_addByte 1 = .ok (.getfield 39, 3) := by decide +kernel
theorem dX5_addByte_4 : decode cX5_addByte 4 = .ok (.sipush 500, 3) := by decide +kernel
theorem dX5_addByte_7 : decode cX5_addByte 7 = .ok (.if_icmp .ge 23, 3) := by decide +kernel
theorem dX5_addByte_10 : decode cX5_addByte 10 = .ok (.aload_n 0, 1) := by decide +kernel
theorem dX5_addByte_11 : decode cX5_addByte 11 = .ok (.getfield 9, 3) := by decide +kernel
theorem dX5_addByte_14 : decode cX5_addByte 14 = .ok (.aload_n 0, 1) := by decide +kernel
theorem dX5_addByte_15 : decode cX5_addByte 15 = .ok (.getfield 39, 3) := by decide +kernel
theorem dX5_addByte_18 : decode cX5_addByte 18 = .ok (.iload_n 1, 1) := by decide +kernel
theorem dX5_addByte_19 : decode cX5_addByte 19 = .ok (.iastore, 1) := by decide +kernel
theorem dX5_addByte_20 : decode cX5_addByte 20 = .ok (.aload_n 0, 1) := by decide +kernel
theorem dX5_addByte_21 : decode cX5_addByte 21 = .ok (.dup, 1) := by decide +kernel
theorem dX5_addByte_22 : decode cX5_addByte 22 = .ok (.getfield 39, 3) := by decide +kernel
theorem dX5_addByte_25 : decode cX5_addByte 25 = .ok (.iconst 1, 1) := by decide +kernel
theorem dX5_addByte_26 : decode cX5_addByte 26 = .ok (.iadd, 1) := by decide +kernel
theorem dX5_addByte_27 : decode cX5_addByte 27 = .ok (.putfield 39, 3) := by decide +kernel
theorem dX5_addByte_30 : decode cX5_addByte 30 = .ok (.return_, 1) := by decide +kernel
theorem dX5_kindAt_0 : decode cX5_kindAt 0 = .ok (.iload_n 1, 1) := by decide +kernel
theorem dX5_kindAt_1 : decode cX5_kindAt 1 = .ok (.ifCond .lt 11, 3) := by decide +kernel
theorem dX5_kindAt_4 : decode cX5_kindAt 4 = .ok (.iload_n 1, 1) := by decide +kernel
theorem dX5_kindAt_5 : decode cX5_kindAt 5 = .ok (.aload_n 0, 1) := by decide +kernel
theorem dX5_kindAt_6 : decode cX5_kindAt 6 = .ok (.getfield 39, 3) := by decide +kernel
theorem dX5_kindAt_9 : decode cX5_kindAt 9 = .ok (.if_icmp .lt 5, 3) := by decide +kernel
theorem dX5_kindAt_12 : decode cX5_kindAt 12 = .ok (.iconst 0, 1) := by decide +kernel
theorem dX5_kindAt_13 : decode cX5_kindAt 13 = .ok (.ireturn, 1) := by decide +kernel
theorem dX5_kindAt_14 : decode cX5_kindAt 14 = .ok (.aload_n 0, 1) := by decide +kernel
theorem dX5_kindAt_15 : decode cX5_kindAt 15 = .ok (.getfield 9, 3) := by decide +kernel
theorem dX5_kindAt_18 : decode cX5_kindAt 18 = .ok (.iload_n 1, 1) := by decide +kernel
theorem dX5_kindAt_19 : decode cX5_kindAt 19 = .ok (.iaload, 1) := by decide +kernel
theorem dX5_kindAt_20 : decode cX5_kindAt 20 = .ok (.istore_n 2, 1) := by decide +kernel
theorem dX5_kindAt_21 : decode cX5_kindAt 21 = .ok (.iload_n 2, 1) := by decide +kernel
theorem dX5_kindAt_22 : decode cX5_kindAt 22 = .ok (.bipush 97, 2) := by decide +kernel
theorem dX5_kindAt_24 : decode cX5_kindAt 24 = .ok (.if_icmp .lt 11, 3) := by decide +kernel
theorem dX5_kindAt_27 : decode cX5_kindAt 27 = .ok (.iload_n 2, 1) := by decide +kernel
theorem dX5_kindAt_28 : decode cX5_kindAt 28 = .ok (.bipush 122, 2) := by decide +kernel
theorem dX5_kindAt_30 : decode cX5_kindAt 30 = .ok (.if_icmp .gt 5, 3) := by decide +kernel
theorem dX5_kindAt_33 : decode cX5_kindAt 33 = .ok (.iconst 1, 1) := by decide +kernel
theorem dX5_kindAt_34 : decode cX5_kindAt 34 = .ok (.ireturn, 1) := by decide +kernel
theorem dX5_kindAt_35 : decode cX5_kindAt 35 = .ok (.iload_n 2, 1) := by decide +kernel
theorem dX5_kindAt_36 : decode cX5_kindAt 36 = .ok (.bipush 48, 2) := by decide +kernel
theorem dX5_kindAt_38 : decode cX5_kindAt 38 = .ok (.if_icmp .lt 11, 3) := by decide +kernel
theorem dX5_kindAt_41 : decode cX5_kindAt 41 = .ok (.iload_n 2, 1) := by decide +kernel
theorem dX5_kindAt_42 : decode cX5_kindAt 42 = .ok (.bipush 57, 2) := by decide +kernel
theorem dX5_kindAt_44 : decode cX5_kindAt 44 = .ok (.if_icmp .gt 5, 3) := by decide +kernel
theorem dX5_kindAt_47 : decode cX5_kindAt 47 = .ok (.iconst 2, 1) := by decide +kernel
theorem dX5_kindAt_48 : decode cX5_kindAt 48 = .ok (.ireturn, 1) := by decide +kernel
theorem dX5_kindAt_49 : decode cX5_kindAt 49 = .ok (.iload_n 2, 1) := by decide +kernel
theorem dX5_kindAt_50 : decode cX5_kindAt 50 = .ok (.bipush 59, 2) := by decide +kernel
theorem dX5_kindAt_52 : decode cX5_kindAt 52 = .ok (.if_icmp .ne 7, 3) := by decide +kernel
theorem dX5_kindAt_55 : decode cX5_kindAt 55 = .ok (.iconst 3, 1) := by decide +kernel
theorem dX5_kindAt_56 : decode cX5_kindAt 56 = .ok (.goto 4, 3) := by decide +kernel
theorem dX5_kindAt_59 : decode cX5_kindAt 59 = .ok (.iconst 4, 1) := by decide +kernel
theorem dX5_kindAt_60 : decode cX5_kindAt 60 = .ok (.ireturn, 1) := by decide +kernel
theorem dX6_init_0 : decode cX6_init 0 = .ok (.aload_n 0, 1) := by decide +kernel
theorem dX6_init_1 : decode cX6_init 1 = .ok (.invokespecial 3, 3) := by decide +kernel
theorem dX6_init_4 : decode cX6_init 4 = .ok (.aload_n 0, 1) := by decide +kernel
theorem dX6_init_5 : decode cX6_init 5 = .ok (.new 9, 3) := by decide +kernel
theorem dX6_init_8 : decode cX6_init 8 = .ok (.dup, 1) := by decide +kernel
theorem dX6_init_9 : decode cX6_init 9 = .ok (.invokespecial 11, 3) := by decide +kernel
theorem dX6_init_12 : decode cX6_init 12 = .ok (.putfield 12, 3) := by decide +kernel
theorem dX6_init_15 : decode cX6_init 15 = .ok (.aload_n 0, 1) := by decide +kernel
theorem dX6_init_16 : decode cX6_init 16 = .ok (.iconst 1, 1) := by decide +kernel
theorem dX6_init_17 : decode cX6_init 17 = .ok (.putfield 18, 3) := by decide +kernel
theorem dX6_init_20 : decode cX6_init 20 = .ok (.aload_n 0, 1) := by decide +kernel
theorem dX6_init_21 : decode cX6_init 21 = .ok (.iconst 1, 1) := by decide +kernel
theorem dX6_init_22 : decode cX6_init 22 = .ok (.putfield 22, 3) := by decide +kernel
theorem dX6_init_25 : decode cX6_init 25 = .ok (.aload_n 0, 1) := by decide +kernel
theorem dX6_init_26 : decode cX6_init 26 = .ok (.bipush 6, 2) := by decide +kernel
theorem dX6_init_28 : decode cX6_init 28 = .ok (.anewarray 25, 3) := by decide +kernel
theorem dX6_init_31 : decode cX6_init 31 = .ok (.putfield 27, 3) := by decide +kernel
theorem dX6_init_34 : decode cX6_init 34 = .ok (.aload_n 0, 1) := by decide +kernel
theorem dX6_init_35 : decode cX6_init 35 = .ok (.bipush 20, 2) := by decide +kernel
theorem dX6_init_37 : decode cX6_init 37 = .ok (.anewarray 31, 3) := by decide +kernel
theorem dX6_init_40 : decode cX6_init 40 = .ok (.putfield 33, 3) := by decide +kernel
theorem dX6_init_43 : decode cX6_init 43 = .ok (.aload_n 0, 1) := by decide +kernel
theorem dX6_init_44 : decode cX6_init 44 = .ok (.bipush 20, 2) := by decide +kernel
theorem dX6_init_46 : decode cX6_init 46 = .ok (.newarray .int, 2) := by decide +kernel
theorem dX6_init_48 : decode cX6_init 48 = .ok (.putfield 37, 3) := by decide +kernel
theorem dX6_init_51 : decode cX6_init 51 = .ok (.aload_n 0, 1) := by decide +kernel
theorem dX6_init_52 : decode cX6_init 52 = .ok (.iconst (-1), 1) := by decide +kernel
theorem dX6_init_53 : decode cX6_init 53 = .ok (.putfield 41, 3) := by decide +kernel
theorem dX6_init_56 : decode cX6_init 56 = .ok (.aload_n 0, 1) := by decide +kernel
theorem dX6_init_57 : decode cX6_init 57 = .ok (.iconst (-1), 1) := by decide +kernel
theorem dX6_init_58 : decode cX6_init 58 = .ok (.putfield 44, 3) := by decide +kernel
theorem dX6_init_61 : decode cX6_init 61 = .ok (.aload_n 0, 1) := by decide +kernel
theorem dX6_init_62 : decode cX6_init 62 = .ok (.iconst (-1), 1) := by decide +kernel
theorem dX6_init_63 : decode cX6_init 63 = .ok (.putfield 47, 3) := by decide +kernel
theorem dX6_init_66 : decode cX6_init 66 = .ok (.aload_n 0, 1) := by decide +kernel
theorem dX6_init_67 : decode cX6_init 67 = .ok (.iconst (-1), 1) := by decide +kernel
theorem dX6_init_68 : decode cX6_init 68 = .ok (.putfield 50, 3) := by decide +kernel
theorem dX6_init_71 : decode cX6_init 71 = .ok (.iconst 0, 1) := by decide +kernel
theorem dX6_init_72 : decode cX6_init 72 = .ok (.istore_n 1, 1) := by decide +kernel
theorem dX6_init_73 : decode cX6_init 73 = .ok (.iload_n 1, 1) := by decide +kernel
theorem dX6_init_74 : decode cX6_init 74 = .ok (.bipush 6, 2) := by decide +kernel
theorem dX6_init_76 : decode cX6_init 76 = .ok (.if_icmp .ge 22, 3) := by decide +kernel
theorem dX6_init_79 : decode cX6_init 79 = .ok (.aload_n 0, 1) := by decide +kernel
theorem dX6_init_80 : decode cX6_init 80 = .ok (.getfield 27, 3) := by decide +kernel
theorem dX6_init_83 : decode cX6_init 83 = .ok (.iload_n 1, 1) := by decide +kernel
theorem dX6_init_84 : decode cX6_init 84 = .ok (.new 25, 3) := by decide +kernel
theorem dX6_init_87 : decode cX6_init 87 = .ok (.dup, 1) := by decide +kernel
theorem dX6_init_88 : decode cX6_init 88 = .ok (.invokespecial 53, 3) := by decide +kernel
theorem dX6_init_91 : decode cX6_init 91 = .ok (.aastore, 1) := by decide +kernel
theorem dX6_init_92 : decode cX6_init 92 = .ok (.iinc 1 1, 3) := by decide +kernel
theorem dX6_init_95 : decode cX6_init 95 = .ok (.goto (-22), 3) := by decide +kernel
theorem dX6_init_98 : decode cX6_init 98 = .ok (.iconst 0, 1) := by decide +kernel
theorem dX6_init_99 : decode cX6_init 99 = .ok (.istore_n 1, 1) := by decide +kernel
theorem dX6_init_100 : decode cX6_init 100 = .ok (.iload_n 1, 1) := by decide +kernel
theorem dX6_init_101 : decode cX6_init 101 = .ok (.bipush 20, 2) := by decide +kernel
theorem dX6_init_103 : decode cX6_init 103 = .ok (.if_icmp .ge 22, 3) := by decide +kernel
theorem dX6_init_106 : decode cX6_init 106 = .ok (.aload_n 0, 1) := by decide +kernel
theorem dX6_init_107 : decode cX6_init 107 = .ok (.getfield 33, 3) := by decide +kernel
theorem dX6_init_110 : decode cX6_init 110 = .ok (.iload_n 1, 1) := by decide +kernel
theorem dX6_init_111 : decode cX6_init 111 = .ok (.new 31, 3) := by decide +kernel
theorem dX6_init_114 : decode cX6_init 114 = .ok (.dup, 1) := by decide +kernel
theorem dX6_init_115 : decode cX6_init 115 = .ok (.invokespecial 54, 3) := by decide +kernel
theorem dX6_init_118 : decode cX6_init 118 = .ok (.aastore, 1) := by decide +kernel
theorem dX6_init_119 : decode cX6_init 119 = .ok (.iinc 1 1, 3) := by decide +kernel
theorem dX6_init_122 : decode cX6_init 122 = .ok (.goto (-22), 3) := by decide +kernel
theorem dX6_init_125 : decode cX6_init 125 = .ok (.return_, 1) := by decide +kernel
theorem dX6_copyFrom_0 : decode cX6_copyFrom 0 = .ok (.aload_n 0, 1) := by decide +kernel
theorem dX6_copyFrom_1 : decode cX6_copyFrom 1 = .ok (.getfield 12, 3) := by decide +kernel
theorem dX6_copyFrom_4 : decode cX6_copyFrom 4 = .ok (.aload_n 1, 1) := by decide +kernel
theorem dX6_copyFrom_5 : decode cX6_copyFrom 5 = .ok (.getfield 12, 3) := by decide +kernel
theorem dX6_copyFrom_8 : decode cX6_copyFrom 8 = .ok (.invokevirtual 55, 3) := by decide +kernel
theorem dX6_copyFrom_11 : decode cX6_copyFrom 11 = .ok (.aload_n 0, 1) := by decide +kernel
theorem dX6_copyFrom_12 : decode cX6_copyFrom 12 = .ok (.aload_n 1, 1) := by decide +kernel
theorem dX6_copyFrom_13 : decode cX6_copyFrom 13 = .ok (.getfield 18, 3) := by decide +kernel
theorem dX6_copyFrom_16 : decode cX6_copyFrom 16 = .ok (.putfield 18, 3) := by decide +kernel
theorem dX6_copyFrom_19 : decode cX6_copyFrom 19 = .ok (.aload_n 0, 1) := by decide +kernel
theorem dX6_copyFrom_20 : decode cX6_copyFrom 20 = .ok (.aload_n 1, 1) := by decide +kernel
theorem dX6_copyFrom_21 : decode cX6_copyFrom 21 = .ok (.getfield 22, 3) := by decide +kernel
theorem dX6_copyFrom_24 : decode cX6_copyFrom 24 = .ok (.putfield 22, 3) := by decide +kernel
theorem dX6_copyFrom_27 : decode cX6_copyFrom 27 = .ok (.aload_n 0, 1) := by decide +kernel
theorem dX6_copyFrom_28 : decode cX6_copyFrom 28 = .ok (.aload_n 1, 1) := by decide +kernel
theorem dX6_copyFrom_29 : decode cX6_copyFrom 29 = .ok (.getfield 59, 3) := by decide +kernel
theorem dX6_copyFrom_32 : decode cX6_copyFrom 32 = .ok (.putfield 59, 3) := by decide +kernel
theorem dX6_copyFrom_35 : decode cX6_copyFrom 35 = .ok (.aload_n 0, 1) := by decide +kernel
theorem dX6_copyFrom_36 : decode cX6_copyFrom 36 = .ok (.aload_n 1, 1) := by decide +kernel
theorem dX6_copyFrom_37 : decode cX6_copyFrom 37 = .ok (.getfield 62, 3) := by decide +kernel
theorem dX6_copyFrom_40 : decode cX6_copyFrom 40 = .ok (.putfield 62, 3) := by decide +kernel
theorem dX6_copyFrom_43 : decode cX6_copyFrom 43 = .ok (.aload_n 0, 1) := by decide +kernel
theorem dX6_copyFrom_44 : decode cX6_copyFrom 44 = .ok (.aload_n 1, 1) := by decide +kernel
theorem dX6_copyFrom_45 : decode cX6_copyFrom 45 = .ok (.getfield 65, 3) := by decide +kernel
theorem dX6_copyFrom_48 : decode cX6_copyFrom 48 = .ok (.putfield 65, 3) := by decide +kernel
theorem dX6_copyFrom_51 : decode cX6_copyFrom 51 = .ok (.aload_n 0, 1) := by decide +kernel
theorem dX6_copyFrom_52 : decode cX6_copyFrom 52 = .ok (.aload_n 1, 1) := by decide +kernel
theorem dX6_copyFrom_53 : decode cX6_copyFrom 53 = .ok (.getfield 68, 3) := by decide +kernel
theorem dX6_copyFrom_56 : decode cX6_copyFrom 56 = .ok (.putfield 68, 3) := by decide +kernel
theorem dX6_copyFrom_59 : decode cX6_copyFrom 59 = .ok (.aload_n 0, 1) := by decide +kernel
theorem dX6_copyFrom_60 : decode cX6_copyFrom 60 = .ok (.aload_n 1, 1) := by decide +kernel
theorem dX6_copyFrom_61 : decode cX6_copyFrom 61 = .ok (.getfield 71, 3) := by decide +kernel
theorem dX6_copyFrom_64 : decode cX6_copyFrom 64 = .ok (.putfield 71, 3) := by decide +kernel
theorem dX6_copyFrom_67 : decode cX6_copyFrom 67 = .ok (.iconst 0, 1) := by decide +kernel
theorem dX6_copyFrom_68 : decode cX6_copyFrom 68 = .ok (.istore_n 2, 1) := by decide +kernel
theorem dX6_copyFrom_69 : decode cX6_copyFrom 69 = .ok (.iload_n 2, 1) := by decide +kernel
theorem dX6_copyFrom_70 : decode cX6_copyFrom 70 = .ok (.aload_n 0, 1) := by decide +kernel
theorem dX6_copyFrom_71 : decode cX6_copyFrom 71 = .ok (.getfield 71, 3) := by decide +kernel
theorem dX6_copyFrom_74 : decode cX6_copyFrom 74 = .ok (.if_icmp .ge 24, 3) := by decide +kernel
theorem dX6_copyFrom_77 : decode cX6_copyFrom 77 = .ok (.aload_n 0, 1) := by decide +kernel
theorem dX6_copyFrom_78 : decode cX6_copyFrom 78 = .ok (.getfield 27, 3) := by decide +kernel
theorem dX6_copyFrom_81 : decode cX6_copyFrom 81 = .ok (.iload_n 2, 1) := by decide +kernel
theorem dX6_copyFrom_82 : decode cX6_copyFrom 82 = .ok (.aaload, 1) := by decide +kernel
theorem dX6_copyFrom_83 : decode cX6_copyFrom 83 = .ok (.aload_n 1, 1) := by decide +kernel
theorem dX6_copyFrom_84 : decode cX6_copyFrom 84 = .ok (.getfield 27, 3) := by decide +kernel
theorem dX6_copyFrom_87 : decode cX6_copyFrom 87 = .ok (.iload_n 2, 1) := by decide +kernel
theorem dX6_copyFrom_88 : decode cX6_copyFrom 88 = .ok (.aaload, 1) := by decide +kernel
theorem dX6_copyFrom_89 : decode cX6_copyFrom 89 = .ok (.invokevirtual 74, 3) := by decide +kernel
theorem dX6_copyFrom_92 : decode cX6_copyFrom 92 = .ok (.iinc 2 1, 3) := by decide +kernel
theorem dX6_copyFrom_95 : decode cX6_copyFrom 95 = .ok (.goto (-26), 3) := by decide +kernel
theorem dX6_copyFrom_98 : decode cX6_copyFrom 98 = .ok (.aload_n 0, 1) := by decide +kernel
theorem dX6_copyFrom_99 : decode cX6_copyFrom 99 = .ok (.aload_n 1, 1) := by decide +kernel
theorem dX6_copyFrom_100 : decode cX6_copyFrom 100 = .ok (.getfield 77, 3) := by decide +kernel
theorem dX6_copyFrom_103 : decode cX6_copyFrom 103 = .ok (.putfield 77, 3) := by decide +kernel
theorem dX6_copyFrom_106 : decode cX6_copyFrom 106 = .ok (.iconst 0, 1) := by decide +kernel
theorem dX6_copyFrom_107 : decode cX6_copyFrom 107 = .ok (.istore_n 2, 1) := by decide +kernel
theorem dX6_copyFrom_108 : decode cX6_copyFrom 108 = .ok (.iload_n 2, 1) := by decide +kernel
theorem dX6_copyFrom_109 : decode cX6_copyFrom 109 = .ok (.aload_n 0, 1) := by decide +kernel
theorem dX6_copyFrom_110 : decode cX6_copyFrom 110 = .ok (.getfield 77, 3) := by decide +kernel
theorem dX6_copyFrom_113 : decode cX6_copyFrom 113 = .ok (.if_icmp .ge 24, 3) := by decide +kernel
theorem dX6_copyFrom_116 : decode cX6_copyFrom 116 = .ok (.aload_n 0, 1) := by decide +kernel
theorem dX6_copyFrom_117 : decode cX6_copyFrom 117 = .ok (.getfield 33, 3) := by decide +kernel
theorem dX6_copyFrom_120 : decode cX6_copyFrom 120 = .ok (.iload_n 2, 1) := by decide +kernel
theorem dX6_copyFrom_121 : decode cX6_copyFrom 121 = .ok (.aaload, 1) := by decide +kernel
theorem dX6_copyFrom_122 : decode cX6_copyFrom 122 = .ok (.aload_n 1, 1) := by decide +kernel
theorem dX6_copyFrom_123 : decode cX6_copyFrom 123 = .ok (.getfield 33, 3) := by decide +kernel
theorem dX6_copyFrom_126 : decode cX6_copyFrom 126 = .ok (.iload_n 2, 1) := by decide +kernel
theorem dX6_copyFrom_127 : decode cX6_copyFrom 127 = .ok (.aaload, 1) := by decide +kernel
theorem dX6_copyFrom_128 : decode cX6_copyFrom 128 = .ok (.invokevirtual 80, 3) := by decide +kernel
theorem dX6_copyFrom_131 : decode cX6_copyFrom 131 = .ok (.iinc 2 1, 3) := by decide +kernel
theorem dX6_copyFrom_134 : decode cX6_copyFrom 134 = .ok (.goto (-26), 3) := by decide +kernel
theorem dX6_copyFrom_137 : decode cX6_copyFrom 137 = .ok (.aload_n 1, 1) := by decide +kernel
theorem dX6_copyFrom_138 : decode cX6_copyFrom 138 = .ok (.getfield 37, 3) := by decide +kernel
theorem dX6_copyFrom_141 : decode cX6_copyFrom 141 = .ok (.iconst 0, 1) := by decide +kernel
theorem dX6_copyFrom_142 : decode cX6_copyFrom 142 = .ok (.aload_n 0, 1) := by decide +kernel
theorem dX6_copyFrom_143 : decode cX6_copyFrom 143 = .ok (.getfield 37, 3) := by decide +kernel
theorem dX6_copyFrom_146 : decode cX6_copyFrom 146 = .ok (.iconst 0, 1) := by decide +kernel
theorem dX6_copyFrom_147 : decode cX6_copyFrom 147 = .ok (.bipush 20, 2) := by decide +kernel
theorem dX6_copyFrom_149 : decode cX6_copyFrom 149 = .ok (.invokestatic 83, 3) := by decide +kernel
theorem dX6_copyFrom_152 : decode cX6_copyFrom 152 = .ok (.aload_n 0, 1) := by decide +kernel
theorem dX6_copyFrom_153 : decode cX6_copyFrom 153 = .ok (.aload_n 1, 1) := by decide +kernel
theorem dX6_copyFrom_154 : decode cX6_copyFrom 154 = .ok (.getfield 89, 3) := by decide +kernel
theorem dX6_copyFrom_157 : decode cX6_copyFrom 157 = .ok (.putfield 89, 3) := by decide +kernel
theorem dX6_copyFrom_160 : decode cX6_copyFrom 160 = .ok (.aload_n 0, 1) := by decide +kernel
theorem dX6_copyFrom_161 : decode cX6_copyFrom 161 = .ok (.aload_n 1, 1) := by decide +kernel
theorem dX6_copyFrom_162 : decode cX6_copyFrom 162 = .ok (.getfield 41, 3) := by decide +kernel
theorem dX6_copyFrom_165 : decode cX6_copyFrom 165 = .ok (.putfield 41, 3) := by decide +kernel
theorem dX6_copyFrom_168 : decode cX6_copyFrom 168 = .ok (.aload_n 0, 1) := by decide +kernel
theorem dX6_copyFrom_169 : decode cX6_copyFrom 169 = .ok (.aload_n 1, 1) := by decide +kernel
theorem dX6_copyFrom_170 : decode cX6_copyFrom 170 = .ok (.getfield 44, 3) := by decide +kernel
theorem dX6_copyFrom_173 : decode cX6_copyFrom 173 = .ok (.putfield 44, 3) := by decide +kernel
theorem dX6_copyFrom_176 : decode cX6_copyFrom 176 = .ok (.aload_n 0, 1) := by decide +kernel
theorem dX6_copyFrom_177 : decode cX6_copyFrom 177 = .ok (.aload_n 1, 1) := by decide +kernel
theorem dX6_copyFrom_178 : decode cX6_copyFrom 178 = .ok (.getfield 47, 3) := by decide +kernel
theorem dX6_copyFrom_181 : decode cX6_copyFrom 181 = .ok (.putfield 47, 3) := by decide +kernel
theorem dX6_copyFrom_184 : decode cX6_copyFrom 184 = .ok (.aload_n 0, 1) := by decide +kernel
theorem dX6_copyFrom_185 : decode cX6_copyFrom 185 = .ok (.aload_n 1, 1) := by decide +kernel
theorem dX6_copyFrom_186 : decode cX6_copyFrom 186 = .ok (.getfield 50, 3) := by decide +kernel
theorem dX6_copyFrom_189 : decode cX6_copyFrom 189 = .ok (.putfield 50, 3) := by decide +kernel
theorem dX6_copyFrom_192 : decode cX6_copyFrom 192 = .ok (.return_, 1) := by decide +kernel
theorem dX6_beginEmpty_0 : decode cX6_beginEmpty 0 = .ok (.aload_n 0, 1) := by decide +kernel
theorem dX6_beginEmpty_1 : decode cX6_beginEmpty 1 = .ok (.getfield 12, 3) := by decide +kernel
theorem dX6_beginEmpty_4 : decode cX6_beginEmpty 4 = .ok (.iconst 0, 1) := by decide +kernel
theorem dX6_beginEmpty_5 : decode cX6_beginEmpty 5 = .ok (.putfield 92, 3) := by decide +kernel
theorem dX6_beginEmpty_8 : decode cX6_beginEmpty 8 = .ok (.aload_n 0, 1) := by decide +kernel
theorem dX6_beginEmpty_9 : decode cX6_beginEmpty 9 = .ok (.iconst 0, 1) := by decide +kernel
theorem dX6_beginEmpty_10 : decode cX6_beginEmpty 10 = .ok (.putfield 62, 3) := by decide +kernel
theorem dX6_beginEmpty_13 : decode cX6_beginEmpty 13 = .ok (.aload_n 0, 1) := by decide +kernel
theorem dX6_beginEmpty_14 : decode cX6_beginEmpty 14 = .ok (.iconst 0, 1) := by decide +kernel
theorem dX6_beginEmpty_15 : decode cX6_beginEmpty 15 = .ok (.putfield 65, 3) := by decide +kernel
theorem dX6_beginEmpty_18 : decode cX6_beginEmpty 18 = .ok (.aload_n 0, 1) := by decide +kernel
theorem dX6_beginEmpty_19 : decode cX6_beginEmpty 19 = .ok (.iconst 0, 1) := by decide +kernel
theorem dX6_beginEmpty_20 : decode cX6_beginEmpty 20 = .ok (.putfield 68, 3) := by decide +kernel
theorem dX6_beginEmpty_23 : decode cX6_beginEmpty 23 = .ok (.aload_n 0, 1) := by decide +kernel
theorem dX6_beginEmpty_24 : decode cX6_beginEmpty 24 = .ok (.iconst 0, 1) := by decide +kernel
theorem dX6_beginEmpty_25 : decode cX6_beginEmpty 25 = .ok (.putfield 71, 3) := by decide +kernel
theorem dX6_beginEmpty_28 : decode cX6_beginEmpty 28 = .ok (.aload_n 0, 1) := by decide +kernel
theorem dX6_beginEmpty_29 : decode cX6_beginEmpty 29 = .ok (.iconst 0, 1) := by decide +kernel
theorem dX6_beginEmpty_30 : decode cX6_beginEmpty 30 = .ok (.putfield 77, 3) := by decide +kernel
theorem dX6_beginEmpty_33 : decode cX6_beginEmpty 33 = .ok (.aload_n 0, 1) := by decide +kernel
theorem dX6_beginEmpty_34 : decode cX6_beginEmpty 34 = .ok (.iconst 0, 1) := by decide +kernel
theorem dX6_beginEmpty_35 : decode cX6_beginEmpty 35 = .ok (.putfield 89, 3) := by decide +kernel
theorem dX6_beginEmpty_38 : decode cX6_beginEmpty 38 = .ok (.aload_n 0, 1) := by decide +kernel
theorem dX6_beginEmpty_39 : decode cX6_beginEmpty 39 = .ok (.invokevirtual 95, 3) := by decide +kernel
theorem dX6_beginEmpty_42 : decode cX6_beginEmpty 42 = .ok (.return_, 1) := by decide +kernel
theorem dX6_hasBarrel_0 : decode cX6_hasBarrel 0 = .ok (.iload_n 1, 1) := by decide +kernel
theorem dX6_hasBarrel_1 : decode cX6_hasBarrel 1 = .ok (.ifCond .lt 15, 3) := by decide +kernel
theorem dX6_hasBarrel_4 : decode cX6_hasBarrel 4 = .ok (.iload_n 1, 1) := by decide +kernel
theorem dX6_hasBarrel_5 : decode cX6_hasBarrel 5 = .ok (.aload_n 0, 1) := by decide +kernel
theorem dX6_hasBarrel_6 : decode cX6_hasBarrel 6 = .ok (.getfield 77, 3) := by decide +kernel
theorem dX6_hasBarrel_9 : decode cX6_hasBarrel 9 = .ok (.if_icmp .ge 7, 3) := by decide +kernel
theorem dX6_hasBarrel_12 : decode cX6_hasBarrel 12 = .ok (.iconst 1, 1) := by decide +kernel
theorem dX6_hasBarrel_13 : decode cX6_hasBarrel 13 = .ok (.goto 4, 3) := by decide +kernel
theorem dX6_hasBarrel_16 : decode cX6_hasBarrel 16 = .ok (.iconst 0, 1) := by decide +kernel
theorem dX6_hasBarrel_17 : decode cX6_hasBarrel 17 = .ok (.ireturn, 1) := by decide +kernel
theorem dX6_hasBuyer_0 : decode cX6_hasBuyer 0 = .ok (.iload_n 1, 1) := by decide +kernel
theorem dX6_hasBuyer_1 : decode cX6_hasBuyer 1 = .ok (.ifCond .lt 15, 3) := by decide +kernel
theorem dX6_hasBuyer_4 : decode cX6_hasBuyer 4 = .ok (.iload_n 1, 1) := by decide +kernel
theorem dX6_hasBuyer_5 : decode cX6_hasBuyer 5 = .ok (.aload_n 0, 1) := by decide +kernel
theorem dX6_hasBuyer_6 : decode cX6_hasBuyer 6 = .ok (.getfield 71, 3) := by decide +kernel
theorem dX6_hasBuyer_9 : decode cX6_hasBuyer 9 = .ok (.if_icmp .ge 7, 3) := by decide +kernel
theorem dX6_hasBuyer_12 : decode cX6_hasBuyer 12 = .ok (.iconst 1, 1) := by decide +kernel
theorem dX6_hasBuyer_13 : decode cX6_hasBuyer 13 = .ok (.goto 4, 3) := by decide +kernel
theorem dX6_hasBuyer_16 : decode cX6_hasBuyer 16 = .ok (.iconst 0, 1) := by decide +kernel
theorem dX6_hasBuyer_17 : decode cX6_hasBuyer 17 = .ok (.ireturn, 1) := by decide +kernel
theorem dX6_hasRoom_0 : decode cX6_hasRoom 0 = .ok (.aload_n 0, 1) := by decide +kernel
theorem dX6_hasRoom_1 : decode cX6_hasRoom 1 = .ok (.getfield 77, 3) := by decide +kernel
theorem dX6_hasRoom_4 : decode cX6_hasRoom 4 = .ok (.bipush 20, 2) := by decide +kernel
theorem dX6_hasRoom_6 : decode cX6_hasRoom 6 = .ok (.if_icmp .ge 7, 3) := by decide +kernel
theorem dX6_hasRoom_9 : decode cX6_hasRoom 9 = .ok (.iconst 1, 1) := by decide +kernel
theorem dX6_hasRoom_10 : decode cX6_hasRoom 10 = .ok (.goto 4, 3) := by decide +kernel
theorem dX6_hasRoom_13 : decode cX6_hasRoom 13 = .ok (.iconst 0, 1) := by decide +kernel
theorem dX6_hasRoom_14 : decode cX6_hasRoom 14 = .ok (.ireturn, 1) := by decide +kernel
theorem dX6_isWaiting_0 : decode cX6_isWaiting 0 = .ok (.aload_n 0, 1) := by decide +kernel
theorem dX6_isWaiting_1 : decode cX6_isWaiting 1 = .ok (.iload_n 1, 1) := by decide +kernel
theorem dX6_isWaiting_2 : decode cX6_isWaiting 2 = .ok (.invokevirtual 98, 3) := by decide +kernel
theorem dX6_isWaiting_5 : decode cX6_isWaiting 5 = .ok (.ifCond .eq 19, 3) := by decide +kernel
theorem dX6_isWaiting_8 : decode cX6_isWaiting 8 = .ok (.aload_n 0, 1) := by decide +kernel
theorem dX6_isWaiting_9 : decode cX6_isWaiting 9 = .ok (.getfield 33, 3) := by decide +kernel
theorem dX6_isWaiting_12 : decode cX6_isWaiting 12 = .ok (.iload_n 1, 1) := by decide +kernel
theorem dX6_isWaiting_13 : decode cX6_isWaiting 13 = .ok (.aaload, 1) := by decide +kernel
theorem dX6_isWaiting_14 : decode cX6_isWaiting 14 = .ok (.getfield 102, 3) := by decide +kernel
theorem dX6_isWaiting_17 : decode cX6_isWaiting 17 = .ok (.ifCond .ne 7, 3) := by decide +kernel
theorem dX6_isWaiting_20 : decode cX6_isWaiting 20 = .ok (.iconst 1, 1) := by decide +kernel
theorem dX6_isWaiting_21 : decode cX6_isWaiting 21 = .ok (.goto 4, 3) := by decide +kernel
theorem dX6_isWaiting_24 : decode cX6_isWaiting 24 = .ok (.iconst 0, 1) := by decide +kernel
theorem dX6_isWaiting_25 : decode cX6_isWaiting 25 = .ok (.ireturn, 1) := by decide +kernel
theorem dX6_canCut_0 : decode cX6_canCut 0 = .ok (.aload_n 0, 1) := by decide +kernel
theorem dX6_canCut_1 : decode cX6_canCut 1 = .ok (.iload_n 1, 1) := by decide +kernel
theorem dX6_canCut_2 : decode cX6_canCut 2 = .ok (.invokevirtual 105, 3) := by decide +kernel
theorem dX6_canCut_5 : decode cX6_canCut 5 = .ok (.ifCond .eq 32, 3) := by decide +kernel
theorem dX6_canCut_8 : decode cX6_canCut 8 = .ok (.iload_n 2, 1) := by decide +kernel
theorem dX6_canCut_9 : decode cX6_canCut 9 = .ok (.iconst 1, 1) := by decide +kernel
theorem dX6_canCut_10 : decode cX6_canCut 10 = .ok (.if_icmp .lt 27, 3) := by decide +kernel
theorem dX6_canCut_13 : decode cX6_canCut 13 = .ok (.aload_n 0, 1) := by decide +kernel
theorem dX6_canCut_14 : decode cX6_canCut 14 = .ok (.getfield 33, 3) := by decide +kernel
theorem dX6_canCut_17 : decode cX6_canCut 17 = .ok (.iload_n 1, 1) := by decide +kernel
theorem dX6_canCut_18 : decode cX6_canCut 18 = .ok (.aaload, 1) := by decide +kernel
theorem dX6_canCut_19 : decode cX6_canCut 19 = .ok (.getfield 108, 3) := by decide +kernel
theorem dX6_canCut_22 : decode cX6_canCut 22 = .ok (.iload_n 2, 1) := by decide +kernel
theorem dX6_canCut_23 : decode cX6_canCut 23 = .ok (.if_icmp .le 14, 3) := by decide +kernel
theorem dX6_canCut_26 : decode cX6_canCut 26 = .ok (.aload_n 0, 1) := by decide +kernel
theorem dX6_canCut_27 : decode cX6_canCut 27 = .ok (.invokevirtual 111, 3) := by decide +kernel
theorem dX6_canCut_30 : decode cX6_canCut 30 = .ok (.ifCond .eq 7, 3) := by decide +kernel
theorem dX6_canCut_33 : decode cX6_canCut 33 = .ok (.iconst 1, 1) := by decide +kernel
theorem dX6_canCut_34 : decode cX6_canCut 34 = .ok (.goto 4, 3) := by decide +kernel
theorem dX6_canCut_37 : decode cX6_canCut 37 = .ok (.iconst 0, 1) := by decide +kernel
theorem dX6_canCut_38 : decode cX6_canCut 38 = .ok (.ireturn, 1) := by decide +kernel
theorem dX6_takeBuyer_0 : decode cX6_takeBuyer 0 = .ok (.aload_n 0, 1) := by decide +kernel
theorem dX6_takeBuyer_1 : decode cX6_takeBuyer 1 = .ok (.getfield 71, 3) := by decide +kernel
theorem dX6_takeBuyer_4 : decode cX6_takeBuyer 4 = .ok (.bipush 6, 2) := by decide +kernel
theorem dX6_takeBuyer_6 : decode cX6_takeBuyer 6 = .ok (.if_icmp .ge 38, 3) := by decide +kernel
theorem dX6_takeBuyer_9 : decode cX6_takeBuyer 9 = .ok (.aload_n 0, 1) := by decide +kernel
theorem dX6_takeBuyer_10 : decode cX6_takeBuyer 10 = .ok (.getfield 27, 3) := by decide +kernel
theorem dX6_takeBuyer_13 : decode cX6_takeBuyer 13 = .ok (.aload_n 0, 1) := by decide +kernel
theorem dX6_takeBuyer_14 : decode cX6_takeBuyer 14 = .ok (.getfield 71, 3) := by decide +kernel
theorem dX6_takeBuyer_17 : decode cX6_takeBuyer 17 = .ok (.aaload, 1) := by decide +kernel
theorem dX6_takeBuyer_18 : decode cX6_takeBuyer 18 = .ok (.iload_n 1, 1) := by decide +kernel
theorem dX6_takeBuyer_19 : decode cX6_takeBuyer 19 = .ok (.iload_n 2, 1) := by decide +kernel
theorem dX6_takeBuyer_20 : decode cX6_takeBuyer 20 = .ok (.iload_n 3, 1) := by decide +kernel
theorem dX6_takeBuyer_21 : decode cX6_takeBuyer 21 = .ok (.invokevirtual 115, 3) := by decide +kernel
theorem dX6_takeBuyer_24 : decode cX6_takeBuyer 24 = .ok (.aload_n 0, 1) := by decide +kernel
theorem dX6_takeBuyer_25 : decode cX6_takeBuyer 25 = .ok (.dup, 1) := by decide +kernel
theorem dX6_takeBuyer_26 : decode cX6_takeBuyer 26 = .ok (.getfield 71, 3) := by decide +kernel
theorem dX6_takeBuyer_29 : decode cX6_takeBuyer 29 = .ok (.iconst 1, 1) := by decide +kernel
theorem dX6_takeBuyer_30 : decode cX6_takeBuyer 30 = .ok (.iadd, 1) := by decide +kernel
theorem dX6_takeBuyer_31 : decode cX6_takeBuyer 31 = .ok (.putfield 71, 3) := by decide +kernel
theorem dX6_takeBuyer_34 : decode cX6_takeBuyer 34 = .ok (.aload_n 0, 1) := by decide +kernel
theorem dX6_takeBuyer_35 : decode cX6_takeBuyer 35 = .ok (.dup, 1) := by decide +kernel
theorem dX6_takeBuyer_36 : decode cX6_takeBuyer 36 = .ok (.getfield 68, 3) := by decide +kernel
theorem dX6_takeBuyer_39 : decode cX6_takeBuyer 39 = .ok (.iload_n 1, 1) := by decide +kernel
theorem dX6_takeBuyer_40 : decode cX6_takeBuyer 40 = .ok (.iadd, 1) := by decide +kernel
theorem dX6_takeBuyer_41 : decode cX6_takeBuyer 41 = .ok (.putfield 68, 3) := by decide +kernel
theorem dX6_takeBuyer_44 : decode cX6_takeBuyer 44 = .ok (.return_, 1) := by decide +kernel
theorem dX6_takeBarrel_0 : decode cX6_takeBarrel 0 = .ok (.aload_n 0, 1) := by decide +kernel
theorem dX6_takeBarrel_1 : decode cX6_takeBarrel 1 = .ok (.invokevirtual 111, 3) := by decide +kernel
theorem dX6_takeBarrel_4 : decode cX6_takeBarrel 4 = .ok (.ifCond .ne 5, 3) := by decide +kernel
theorem dX6_takeBarrel_7 : decode cX6_takeBarrel 7 = .ok (.iconst (-1), 1) := by decide +kernel
theorem dX6_takeBarrel_8 : decode cX6_takeBarrel 8 = .ok (.ireturn, 1) := by decide +kernel
theorem dX6_takeBarrel_9 : decode cX6_takeBarrel 9 = .ok (.aload_n 0, 1) := by decide +kernel
theorem dX6_takeBarrel_10 : decode cX6_takeBarrel 10 = .ok (.getfield 77, 3) := by decide +kernel
theorem dX6_takeBarrel_13 : decode cX6_takeBarrel 13 = .ok (.istore 5, 2) := by decide +kernel
theorem dX6_takeBarrel_15 : decode cX6_takeBarrel 15 = .ok (.aload_n 0, 1) := by decide +kernel
theorem dX6_takeBarrel_16 : decode cX6_takeBarrel 16 = .ok (.dup, 1) := by decide +kernel
theorem dX6_takeBarrel_17 : decode cX6_takeBarrel 17 = .ok (.getfield 77, 3) := by decide +kernel
theorem dX6_takeBarrel_20 : decode cX6_takeBarrel 20 = .ok (.iconst 1, 1) := by decide +kernel
theorem dX6_takeBarrel_21 : decode cX6_takeBarrel 21 = .ok (.iadd, 1) := by decide +kernel
theorem dX6_takeBarrel_22 : decode cX6_takeBarrel 22 = .ok (.putfield 77, 3) := by decide +kernel
theorem dX6_takeBarrel_25 : decode cX6_takeBarrel 25 = .ok (.aload_n 0, 1) := by decide +kernel
theorem dX6_takeBarrel_26 : decode cX6_takeBarrel 26 = .ok (.getfield 33, 3) := by decide +kernel
theorem dX6_takeBarrel_29 : decode cX6_takeBarrel 29 = .ok (.iload 5, 2) := by decide +kernel
theorem dX6_takeBarrel_31 : decode cX6_takeBarrel 31 = .ok (.aaload, 1) := by decide +kernel
theorem dX6_takeBarrel_32 : decode cX6_takeBarrel 32 = .ok (.aload_n 2, 1) := by decide +kernel
theorem dX6_takeBarrel_33 : decode cX6_takeBarrel 33 = .ok (.iload_n 3, 1) := by decide +kernel
theorem dX6_takeBarrel_34 : decode cX6_takeBarrel 34 = .ok (.iload 4, 2) := by decide +kernel
theorem dX6_takeBarrel_36 : decode cX6_takeBarrel 36 = .ok (.invokevirtual 119, 3) := by decide +kernel
theorem dX6_takeBarrel_39 : decode cX6_takeBarrel 39 = .ok (.aload_n 0, 1) := by decide +kernel
theorem dX6_takeBarrel_40 : decode cX6_takeBarrel 40 = .ok (.getfield 33, 3) := by decide +kernel
theorem dX6_takeBarrel_43 : decode cX6_takeBarrel 43 = .ok (.iload 5, 2) := by decide +kernel
theorem dX6_takeBarrel_45 : decode cX6_takeBarrel 45 = .ok (.aaload, 1) := by decide +kernel
theorem dX6_takeBarrel_46 : decode cX6_takeBarrel 46 = .ok (.iload_n 1, 1) := by decide +kernel
theorem dX6_takeBarrel_47 : decode cX6_takeBarrel 47 = .ok (.invokevirtual 123, 3) := by decide +kernel
theorem dX6_takeBarrel_50 : decode cX6_takeBarrel 50 = .ok (.aload_n 0, 1) := by decide +kernel
theorem dX6_takeBarrel_51 : decode cX6_takeBarrel 51 = .ok (.iload 5, 2) := by decide +kernel
theorem dX6_takeBarrel_53 : decode cX6_takeBarrel 53 = .ok (.invokevirtual 127, 3) := by decide +kernel
theorem dX6_takeBarrel_56 : decode cX6_takeBarrel 56 = .ok (.iload 5, 2) := by decide +kernel
theorem dX6_takeBarrel_58 : decode cX6_takeBarrel 58 = .ok (.ireturn, 1) := by decide +kernel
theorem dX6_cut_0 : decode cX6_cut 0 = .ok (.aload_n 0, 1) := by decide +kernel
theorem dX6_cut_1 : decode cX6_cut 1 = .ok (.iload_n 1, 1) := by decide +kernel
theorem dX6_cut_2 : decode cX6_cut 2 = .ok (.iload_n 2, 1) := by decide +kernel
theorem dX6_cut_3 : decode cX6_cut 3 = .ok (.invokevirtual 130, 3) := by decide +kernel
theorem dX6_cut_6 : decode cX6_cut 6 = .ok (.ifCond .ne 5, 3) := by decide +kernel
theorem dX6_cut_9 : decode cX6_cut 9 = .ok (.iconst (-1), 1) := by decide +kernel
theorem dX6_cut_10 : decode cX6_cut 10 = .ok (.ireturn, 1) := by decide +kernel
theorem dX6_cut_11 : decode cX6_cut 11 = .ok (.aload_n 0, 1) := by decide +kernel
theorem dX6_cut_12 : decode cX6_cut 12 = .ok (.getfield 33, 3) := by decide +kernel
theorem dX6_cut_15 : decode cX6_cut 15 = .ok (.iload_n 1, 1) := by decide +kernel
theorem dX6_cut_16 : decode cX6_cut 16 = .ok (.aaload, 1) := by decide +kernel
theorem dX6_cut_17 : decode cX6_cut 17 = .ok (.astore_n 3, 1) := by decide +kernel
theorem dX6_cut_18 : decode cX6_cut 18 = .ok (.aload_n 3, 1) := by decide +kernel
theorem dX6_cut_19 : decode cX6_cut 19 = .ok (.getfield 108, 3) := by decide +kernel
theorem dX6_cut_22 : decode cX6_cut 22 = .ok (.istore 4, 2) := by decide +kernel
theorem dX6_cut_24 : decode cX6_cut 24 = .ok (.aload_n 3, 1) := by decide +kernel
theorem dX6_cut_25 : decode cX6_cut 25 = .ok (.getfield 134, 3) := by decide +kernel
theorem dX6_cut_28 : decode cX6_cut 28 = .ok (.iload_n 2, 1) := by decide +kernel
theorem dX6_cut_29 : decode cX6_cut 29 = .ok (.imul, 1) := by decide +kernel
theorem dX6_cut_30 : decode cX6_cut 30 = .ok (.iload 4, 2) := by decide +kernel
theorem dX6_cut_32 : decode cX6_cut 32 = .ok (.idiv, 1) := by decide +kernel
theorem dX6_cut_33 : decode cX6_cut 33 = .ok (.istore 5, 2) := by decide +kernel
theorem dX6_cut_35 : decode cX6_cut 35 = .ok (.aload_n 0, 1) := by decide +kernel
theorem dX6_cut_36 : decode cX6_cut 36 = .ok (.iload 5, 2) := by decide +kernel
theorem dX6_cut_38 : decode cX6_cut 38 = .ok (.iconst 1, 1) := by decide +kernel
theorem dX6_cut_39 : decode cX6_cut 39 = .ok (.invokestatic 137, 3) := by decide +kernel
theorem dX6_cut_42 : decode cX6_cut 42 = .ok (.aload_n 3, 1) := by decide +kernel
theorem dX6_cut_43 : decode cX6_cut 43 = .ok (.getfield 143, 3) := by decide +kernel
theorem dX6_cut_46 : decode cX6_cut 46 = .ok (.iload 4, 2) := by decide +kernel
theorem dX6_cut_48 : decode cX6_cut 48 = .ok (.iload_n 2, 1) := by decide +kernel
theorem dX6_cut_49 : decode cX6_cut 49 = .ok (.isub, 1) := by decide +kernel
theorem dX6_cut_50 : decode cX6_cut 50 = .ok (.iload 4, 2) := by decide +kernel
theorem dX6_cut_52 : decode cX6_cut 52 = .ok (.invokevirtual 146, 3) := by decide +kernel
theorem dX6_cut_55 : decode cX6_cut 55 = .ok (.istore 6, 2) := by decide +kernel
theorem dX6_cut_57 : decode cX6_cut 57 = .ok (.aload_n 3, 1) := by decide +kernel
theorem dX6_cut_58 : decode cX6_cut 58 = .ok (.iload 4, 2) := by decide +kernel
theorem dX6_cut_60 : decode cX6_cut 60 = .ok (.iload_n 2, 1) := by decide +kernel
theorem dX6_cut_61 : decode cX6_cut 61 = .ok (.isub, 1) := by decide +kernel
theorem dX6_cut_62 : decode cX6_cut 62 = .ok (.invokevirtual 150, 3) := by decide +kernel
theorem dX6_cut_65 : decode cX6_cut 65 = .ok (.aload_n 3, 1) := by decide +kernel
theorem dX6_cut_66 : decode cX6_cut 66 = .ok (.aload_n 3, 1) := by decide +kernel
theorem dX6_cut_67 : decode cX6_cut 67 = .ok (.getfield 134, 3) := by decide +kernel
theorem dX6_cut_70 : decode cX6_cut 70 = .ok (.iload 5, 2) := by decide +kernel
theorem dX6_cut_72 : decode cX6_cut 72 = .ok (.isub, 1) := by decide +kernel
theorem dX6_cut_73 : decode cX6_cut 73 = .ok (.iconst 1, 1) := by decide +kernel
theorem dX6_cut_74 : decode cX6_cut 74 = .ok (.invokestatic 137, 3) := by decide +kernel
theorem dX6_cut_77 : decode cX6_cut 77 = .ok (.putfield 134, 3) := by decide +kernel
theorem dX6_cut_80 : decode cX6_cut 80 = .ok (.iload 6, 2) := by decide +kernel
theorem dX6_cut_82 : decode cX6_cut 82 = .ok (.ireturn, 1) := by decide +kernel
theorem dX6_takeAway_0 : decode cX6_takeAway 0 = .ok (.aload_n 0, 1) := by decide +kernel
theorem dX6_takeAway_1 : decode cX6_takeAway 1 = .ok (.iload_n 1, 1) := by decide +kernel
theorem dX6_takeAway_2 : decode cX6_takeAway 2 = .ok (.invokevirtual 105, 3) := by decide +kernel
theorem dX6_takeAway_5 : decode cX6_takeAway 5 = .ok (.ifCond .eq 18, 3) := by decide +kernel
theorem dX6_takeAway_8 : decode cX6_takeAway 8 = .ok (.aload_n 0, 1) := by decide +kernel
theorem dX6_takeAway_9 : decode cX6_takeAway 9 = .ok (.getfield 33, 3) := by decide +kernel
theorem dX6_takeAway_12 : decode cX6_takeAway 12 = .ok (.iload_n 1, 1) := by decide +kernel
theorem dX6_takeAway_13 : decode cX6_takeAway 13 = .ok (.aaload, 1) := by decide +kernel
theorem dX6_takeAway_14 : decode cX6_takeAway 14 = .ok (.iconst 3, 1) := by decide +kernel
theorem dX6_takeAway_15 : decode cX6_takeAway 15 = .ok (.putfield 102, 3) := by decide +kernel
theorem dX6_takeAway_18 : decode cX6_takeAway 18 = .ok (.aload_n 0, 1) := by decide +kernel
theorem dX6_takeAway_19 : decode cX6_takeAway 19 = .ok (.iload_n 1, 1) := by decide +kernel
theorem dX6_takeAway_20 : decode cX6_takeAway 20 = .ok (.invokevirtual 153, 3) := by decide +kernel
theorem dX6_takeAway_23 : decode cX6_takeAway 23 = .ok (.return_, 1) := by decide +kernel
theorem dX6_putCoins_0 : decode cX6_putCoins 0 = .ok (.aload_n 0, 1) := by decide +kernel
theorem dX6_putCoins_1 : decode cX6_putCoins 1 = .ok (.iload_n 1, 1) := by decide +kernel
theorem dX6_putCoins_2 : decode cX6_putCoins 2 = .ok (.invokevirtual 156, 3) := by decide +kernel
theorem dX6_putCoins_5 : decode cX6_putCoins 5 = .ok (.ifCond .eq 45, 3) := by decide +kernel
theorem dX6_putCoins_8 : decode cX6_putCoins 8 = .ok (.iload_n 2, 1) := by decide +kernel
theorem dX6_putCoins_9 : decode cX6_putCoins 9 = .ok (.ldc 159, 2) := by decide +kernel
theorem dX6_putCoins_11 : decode cX6_putCoins 11 = .ok (.aload_n 0, 1) := by decide +kernel
theorem dX6_putCoins_12 : decode cX6_putCoins 12 = .ok (.getfield 27, 3) := by decide +kernel
theorem dX6_putCoins_15 : decode cX6_putCoins 15 = .ok (.iload_n 1, 1) := by decide +kernel
theorem dX6_putCoins_16 : decode cX6_putCoins 16 = .ok (.aaload, 1) := by decide +kernel
theorem dX6_putCoins_17 : decode cX6_putCoins 17 = .ok (.getfield 160, 3) := by decide +kernel
theorem dX6_putCoins_20 : decode cX6_putCoins 20 = .ok (.isub, 1) := by decide +kernel
theorem dX6_putCoins_21 : decode cX6_putCoins 21 = .ok (.invokestatic 163, 3) := by decide +kernel
theorem dX6_putCoins_24 : decode cX6_putCoins 24 = .ok (.istore_n 3, 1) := by decide +kernel
theorem dX6_putCoins_25 : decode cX6_putCoins 25 = .ok (.aload_n 0, 1) := by decide +kernel
theorem dX6_putCoins_26 : decode cX6_putCoins 26 = .ok (.getfield 27, 3) := by decide +kernel
theorem dX6_putCoins_29 : decode cX6_putCoins 29 = .ok (.iload_n 1, 1) := by decide +kernel
theorem dX6_putCoins_30 : decode cX6_putCoins 30 = .ok (.aaload, 1) := by decide +kernel
theorem dX6_putCoins_31 : decode cX6_putCoins 31 = .ok (.dup, 1) := by decide +kernel
theorem dX6_putCoins_32 : decode cX6_putCoins 32 = .ok (.getfield 160, 3) := by decide +kernel
theorem dX6_putCoins_35 : decode cX6_putCoins 35 = .ok (.iload_n 3, 1) := by decide +kernel
theorem dX6_putCoins_36 : decode cX6_putCoins 36 = .ok (.iadd, 1) := by decide +kernel
theorem dX6_putCoins_37 : decode cX6_putCoins 37 = .ok (.putfield 160, 3) := by decide +kernel
theorem dX6_putCoins_40 : decode cX6_putCoins 40 = .ok (.aload_n 0, 1) := by decide +kernel
theorem dX6_putCoins_41 : decode cX6_putCoins 41 = .ok (.dup, 1) := by decide +kernel
theorem dX6_putCoins_42 : decode cX6_putCoins 42 = .ok (.getfield 68, 3) := by decide +kernel
theorem dX6_putCoins_45 : decode cX6_putCoins 45 = .ok (.iload_n 3, 1) := by decide +kernel
theorem dX6_putCoins_46 : decode cX6_putCoins 46 = .ok (.iadd, 1) := by decide +kernel
theorem dX6_putCoins_47 : decode cX6_putCoins 47 = .ok (.putfield 68, 3) := by decide +kernel
theorem dX6_putCoins_50 : decode cX6_putCoins 50 = .ok (.return_, 1) := by decide +kernel
theorem dX6_coinsInPurses_0 : decode cX6_coinsInPurses 0 = .ok (.iconst 0, 1) := by decide +kernel
theorem dX6_coinsInPurses_1 : decode cX6_coinsInPurses 1 = .ok (.istore_n 1, 1) := by decide +kernel
theorem dX6_coinsInPurses_2 : decode cX6_coinsInPurses 2 = .ok (.iconst 0, 1) := by decide +kernel
theorem dX6_coinsInPurses_3 : decode cX6_coinsInPurses 3 = .ok (.istore_n 2, 1) := by decide +kernel
theorem dX6_coinsInPurses_4 : decode cX6_coinsInPurses 4 = .ok (.iload_n 2, 1) := by decide +kernel
theorem dX6_coinsInPurses_5 : decode cX6_coinsInPurses 5 = .ok (.aload_n 0, 1) := by decide +kernel
theorem dX6_coinsInPurses_6 : decode cX6_coinsInPurses 6 = .ok (.getfield 71, 3) := by decide +kernel
theorem dX6_coinsInPurses_9 : decode cX6_coinsInPurses 9 = .ok (.if_icmp .ge 21, 3) := by decide +kernel
theorem dX6_coinsInPurses_12 : decode cX6_coinsInPurses 12 = .ok (.iload_n 1, 1) := by decide +kernel
theorem dX6_coinsInPurses_13 : decode cX6_coinsInPurses 13 = .ok (.aload_n 0, 1) := by decide +kernel
theorem dX6_coinsInPurses_14 : decode cX6_coinsInPurses 14 = .ok (.getfield 27, 3) := by decide +kernel
theorem dX6_coinsInPurses_17 : decode cX6_coinsInPurses 17 = .ok (.iload_n 2, 1) := by decide +kernel
theorem dX6_coinsInPurses_18 : decode cX6_coinsInPurses 18 = .ok (.aaload, 1) := by decide +kernel
theorem dX6_coinsInPurses_19 : decode cX6_coinsInPurses 19 = .ok (.getfield 160, 3) := by decide +kernel
theorem dX6_coinsInPurses_22 : decode cX6_coinsInPurses 22 = .ok (.iadd, 1) := by decide +kernel
theorem dX6_coinsInPurses_23 : decode cX6_coinsInPurses 23 = .ok (.istore_n 1, 1) := by decide +kernel
theorem dX6_coinsInPurses_24 : decode cX6_coinsInPurses 24 = .ok (.iinc 2 1, 3) := by decide +kernel
theorem dX6_coinsInPurses_27 : decode cX6_coinsInPurses 27 = .ok (.goto (-23), 3) := by decide +kernel
theorem dX6_coinsInPurses_30 : decode cX6_coinsInPurses 30 = .ok (.iload_n 1, 1) := by decide +kernel
theorem dX6_coinsInPurses_31 : decode cX6_coinsInPurses 31 = .ok (.ireturn, 1) := by decide +kernel
theorem dX6_keenest_0 : decode cX6_keenest 0 = .ok (.iconst 0, 1) := by decide +kernel
theorem dX6_keenest_1 : decode cX6_keenest 1 = .ok (.istore_n 2, 1) := by decide +kernel
theorem dX6_keenest_2 : decode cX6_keenest 2 = .ok (.iconst 1, 1) := by decide +kernel
theorem dX6_keenest_3 : decode cX6_keenest 3 = .ok (.istore_n 3, 1) := by decide +kernel
theorem dX6_keenest_4 : decode cX6_keenest 4 = .ok (.iload_n 3, 1) := by decide +kernel
theorem dX6_keenest_5 : decode cX6_keenest 5 = .ok (.aload_n 0, 1) := by decide +kernel
theorem dX6_keenest_6 : decode cX6_keenest 6 = .ok (.getfield 71, 3) := by decide +kernel
theorem dX6_keenest_9 : decode cX6_keenest 9 = .ok (.if_icmp .ge 35, 3) := by decide +kernel
theorem dX6_keenest_12 : decode cX6_keenest 12 = .ok (.aload_n 0, 1) := by decide +kernel
theorem dX6_keenest_13 : decode cX6_keenest 13 = .ok (.getfield 27, 3) := by decide +kernel
theorem dX6_keenest_16 : decode cX6_keenest 16 = .ok (.iload_n 3, 1) := by decide +kernel
theorem dX6_keenest_17 : decode cX6_keenest 17 = .ok (.aaload, 1) := by decide +kernel
theorem dX6_keenest_18 : decode cX6_keenest 18 = .ok (.aload_n 1, 1) := by decide +kernel
theorem dX6_keenest_19 : decode cX6_keenest 19 = .ok (.invokevirtual 166, 3) := by decide +kernel
theorem dX6_keenest_22 : decode cX6_keenest 22 = .ok (.aload_n 0, 1) := by decide +kernel
theorem dX6_keenest_23 : decode cX6_keenest 23 = .ok (.getfield 27, 3) := by decide +kernel
theorem dX6_keenest_26 : decode cX6_keenest 26 = .ok (.iload_n 2, 1) := by decide +kernel
theorem dX6_keenest_27 : decode cX6_keenest 27 = .ok (.aaload, 1) := by decide +kernel
theorem dX6_keenest_28 : decode cX6_keenest 28 = .ok (.aload_n 1, 1) := by decide +kernel
theorem dX6_keenest_29 : decode cX6_keenest 29 = .ok (.invokevirtual 166, 3) := by decide +kernel
theorem dX6_keenest_32 : decode cX6_keenest 32 = .ok (.dcmp .l, 1) := by decide +kernel
theorem dX6_keenest_33 : decode cX6_keenest 33 = .ok (.ifCond .le 5, 3) := by decide +kernel
theorem dX6_keenest_36 : decode cX6_keenest 36 = .ok (.iload_n 3, 1) := by decide +kernel
theorem dX6_keenest_37 : decode cX6_keenest 37 = .ok (.istore_n 2, 1) := by decide +kernel
theorem dX6_keenest_38 : decode cX6_keenest 38 = .ok (.iinc 3 1, 3) := by decide +kernel
theorem dX6_keenest_41 : decode cX6_keenest 41 = .ok (.goto (-37), 3) := by decide +kernel
theorem dX6_keenest_44 : decode cX6_keenest 44 = .ok (.iload_n 2, 1) := by decide +kernel
theorem dX6_keenest_45 : decode cX6_keenest 45 = .ok (.ireturn, 1) := by decide +kernel
theorem dX6_withFee_0 : decode cX6_withFee 0 = .ok (.iload_n 1, 1) := by decide +kernel
theorem dX6_withFee_1 : decode cX6_withFee 1 = .ok (.iload_n 1, 1) := by decide +kernel
theorem dX6_withFee_2 : decode cX6_withFee 2 = .ok (.aload_n 0, 1) := by decide +kernel
theorem dX6_withFee_3 : decode cX6_withFee 3 = .ok (.getfield 59, 3) := by decide +kernel
theorem dX6_withFee_6 : decode cX6_withFee 6 = .ok (.imul, 1) := by decide +kernel
theorem dX6_withFee_7 : decode cX6_withFee 7 = .ok (.bipush 100, 2) := by decide +kernel
theorem dX6_withFee_9 : decode cX6_withFee 9 = .ok (.idiv, 1) := by decide +kernel
theorem dX6_withFee_10 : decode cX6_withFee 10 = .ok (.iadd, 1) := by decide +kernel
theorem dX6_withFee_11 : decode cX6_withFee 11 = .ok (.ireturn, 1) := by decide +kernel
theorem dX6_nextPrice_0 : decode cX6_nextPrice 0 = .ok (.aload_n 0, 1) := by decide +kernel
theorem dX6_nextPrice_1 : decode cX6_nextPrice 1 = .ok (.getfield 41, 3) := by decide +kernel
theorem dX6_nextPrice_4 : decode cX6_nextPrice 4 = .ok (.iconst (-1), 1) := by decide +kernel
theorem dX6_nextPrice_5 : decode cX6_nextPrice 5 = .ok (.if_icmp .ne 5, 3) := by decide +kernel
theorem dX6_nextPrice_8 : decode cX6_nextPrice 8 = .ok (.iconst (-1), 1) := by decide +kernel
theorem dX6_nextPrice_9 : decode cX6_nextPrice 9 = .ok (.ireturn, 1) := by decide +kernel
theorem dX6_nextPrice_10 : decode cX6_nextPrice 10 = .ok (.aload_n 0, 1) := by decide +kernel
theorem dX6_nextPrice_11 : decode cX6_nextPrice 11 = .ok (.getfield 47, 3) := by decide +kernel
theorem dX6_nextPrice_14 : decode cX6_nextPrice 14 = .ok (.iconst (-1), 1) := by decide +kernel
theorem dX6_nextPrice_15 : decode cX6_nextPrice 15 = .ok (.if_icmp .ne 18, 3) := by decide +kernel
theorem dX6_nextPrice_18 : decode cX6_nextPrice 18 = .ok (.aload_n 0, 1) := by decide +kernel
theorem dX6_nextPrice_19 : decode cX6_nextPrice 19 = .ok (.getfield 33, 3) := by decide +kernel
theorem dX6_nextPrice_22 : decode cX6_nextPrice 22 = .ok (.aload_n 0, 1) := by decide +kernel
theorem dX6_nextPrice_23 : decode cX6_nextPrice 23 = .ok (.getfield 41, 3) := by decide +kernel
theorem dX6_nextPrice_26 : decode cX6_nextPrice 26 = .ok (.aaload, 1) := by decide +kernel
theorem dX6_nextPrice_27 : decode cX6_nextPrice 27 = .ok (.getfield 134, 3) := by decide +kernel
theorem dX6_nextPrice_30 : decode cX6_nextPrice 30 = .ok (.goto 12, 3) := by decide +kernel
theorem dX6_nextPrice_33 : decode cX6_nextPrice 33 = .ok (.aload_n 0, 1) := by decide +kernel
theorem dX6_nextPrice_34 : decode cX6_nextPrice 34 = .ok (.getfield 44, 3) := by decide +kernel
theorem dX6_nextPrice_37 : decode cX6_nextPrice 37 = .ok (.aload_n 0, 1) := by decide +kernel
theorem dX6_nextPrice_38 : decode cX6_nextPrice 38 = .ok (.getfield 22, 3) := by decide +kernel
theorem dX6_nextPrice_41 : decode cX6_nextPrice 41 = .ok (.iadd, 1) := by decide +kernel
theorem dX6_nextPrice_42 : decode cX6_nextPrice 42 = .ok (.ireturn, 1) := by decide +kernel
theorem dX6_refusal_0 : decode cX6_refusal 0 = .ok (.aload_n 0, 1) := by decide +kernel
theorem dX6_refusal_1 : decode cX6_refusal 1 = .ok (.getfield 12, 3) := by decide +kernel
theorem dX6_refusal_4 : decode cX6_refusal 4 = .ok (.invokevirtual 170, 3) := by decide +kernel
theorem dX6_refusal_7 : decode cX6_refusal 7 = .ok (.ifCond .ne 5, 3) := by decide +kernel
theorem dX6_refusal_10 : decode cX6_refusal 10 = .ok (.iconst 1, 1) := by decide +kernel
theorem dX6_refusal_11 : decode cX6_refusal 11 = .ok (.ireturn, 1) := by decide +kernel
theorem dX6_refusal_12 : decode cX6_refusal 12 = .ok (.aload_n 0, 1) := by decide +kernel
theorem dX6_refusal_13 : decode cX6_refusal 13 = .ok (.getfield 41, 3) := by decide +kernel
theorem dX6_refusal_16 : decode cX6_refusal 16 = .ok (.iconst (-1), 1) := by decide +kernel
theorem dX6_refusal_17 : decode cX6_refusal 17 = .ok (.if_icmp .ne 5, 3) := by decide +kernel
theorem dX6_refusal_20 : decode cX6_refusal 20 = .ok (.iconst 2, 1) := by decide +kernel
theorem dX6_refusal_21 : decode cX6_refusal 21 = .ok (.ireturn, 1) := by decide +kernel
theorem dX6_refusal_22 : decode cX6_refusal 22 = .ok (.iload_n 1, 1) := by decide +kernel
theorem dX6_refusal_23 : decode cX6_refusal 23 = .ok (.aload_n 0, 1) := by decide +kernel
theorem dX6_refusal_24 : decode cX6_refusal 24 = .ok (.getfield 47, 3) := by decide +kernel
theorem dX6_refusal_27 : decode cX6_refusal 27 = .ok (.if_icmp .ne 5, 3) := by decide +kernel
theorem dX6_refusal_30 : decode cX6_refusal 30 = .ok (.iconst 3, 1) := by decide +kernel
theorem dX6_refusal_31 : decode cX6_refusal 31 = .ok (.ireturn, 1) := by decide +kernel
theorem dX6_refusal_32 : decode cX6_refusal 32 = .ok (.aload_n 0, 1) := by decide +kernel
theorem dX6_refusal_33 : decode cX6_refusal 33 = .ok (.iload_n 1, 1) := by decide +kernel
theorem dX6_refusal_34 : decode cX6_refusal 34 = .ok (.invokevirtual 156, 3) := by decide +kernel
theorem dX6_refusal_37 : decode cX6_refusal 37 = .ok (.ifCond .eq 27, 3) := by decide +kernel
theorem dX6_refusal_40 : decode cX6_refusal 40 = .ok (.aload_n 0, 1) := by decide +kernel
theorem dX6_refusal_41 : decode cX6_refusal 41 = .ok (.getfield 27, 3) := by decide +kernel
theorem dX6_refusal_44 : decode cX6_refusal 44 = .ok (.iload_n 1, 1) := by decide +kernel
theorem dX6_refusal_45 : decode cX6_refusal 45 = .ok (.aaload, 1) := by decide +kernel
theorem dX6_refusal_46 : decode cX6_refusal 46 = .ok (.getfield 160, 3) := by decide +kernel
theorem dX6_refusal_49 : decode cX6_refusal 49 = .ok (.aload_n 0, 1) := by decide +kernel
theorem dX6_refusal_50 : decode cX6_refusal 50 = .ok (.aload_n 0, 1) := by decide +kernel
theorem dX6_refusal_51 : decode cX6_refusal 51 = .ok (.invokevirtual 173, 3) := by decide +kernel
theorem dX6_refusal_54 : decode cX6_refusal 54 = .ok (.invokevirtual 177, 3) := by decide +kernel
theorem dX6_refusal_57 : decode cX6_refusal 57 = .ok (.if_icmp .lt 7, 3) := by decide +kernel
theorem dX6_refusal_60 : decode cX6_refusal 60 = .ok (.iconst 0, 1) := by decide +kernel
theorem dX6_refusal_61 : decode cX6_refusal 61 = .ok (.goto 4, 3) := by decide +kernel
theorem dX6_refusal_64 : decode cX6_refusal 64 = .ok (.iconst 4, 1) := by decide +kernel
theorem dX6_refusal_65 : decode cX6_refusal 65 = .ok (.ireturn, 1) := by decide +kernel
theorem dX6_whoNods_0 : decode cX6_whoNods 0 = .ok (.aload_n 0, 1) := by decide +kernel
theorem dX6_whoNods_1 : decode cX6_whoNods 1 = .ok (.getfield 41, 3) := by decide +kernel
theorem dX6_whoNods_4 : decode cX6_whoNods 4 = .ok (.iconst (-1), 1) := by decide +kernel
theorem dX6_whoNods_5 : decode cX6_whoNods 5 = .ok (.if_icmp .ne 5, 3) := by decide +kernel
theorem dX6_whoNods_8 : decode cX6_whoNods 8 = .ok (.iconst (-1), 1) := by decide +kernel
theorem dX6_whoNods_9 : decode cX6_whoNods 9 = .ok (.ireturn, 1) := by decide +kernel
theorem dX6_whoNods_10 : decode cX6_whoNods 10 = .ok (.aload_n 0, 1) := by decide +kernel
theorem dX6_whoNods_11 : decode cX6_whoNods 11 = .ok (.getfield 33, 3) := by decide +kernel
theorem dX6_whoNods_14 : decode cX6_whoNods 14 = .ok (.aload_n 0, 1) := by decide +kernel
theorem dX6_whoNods_15 : decode cX6_whoNods 15 = .ok (.getfield 41, 3) := by decide +kernel
theorem dX6_whoNods_18 : decode cX6_whoNods 18 = .ok (.aaload, 1) := by decide +kernel
theorem dX6_whoNods_19 : decode cX6_whoNods 19 = .ok (.astore_n 1, 1) := by decide +kernel
theorem dX6_whoNods_20 : decode cX6_whoNods 20 = .ok (.aload_n 0, 1) := by decide +kernel
theorem dX6_whoNods_21 : decode cX6_whoNods 21 = .ok (.invokevirtual 173, 3) := by decide +kernel
theorem dX6_whoNods_24 : decode cX6_whoNods 24 = .ok (.istore_n 2, 1) := by decide +kernel
theorem dX6_whoNods_25 : decode cX6_whoNods 25 = .ok (.aload_n 0, 1) := by decide +kernel
theorem dX6_whoNods_26 : decode cX6_whoNods 26 = .ok (.getfield 47, 3) := by decide +kernel
theorem dX6_whoNods_29 : decode cX6_whoNods 29 = .ok (.istore_n 3, 1) := by decide +kernel
theorem dX6_whoNods_30 : decode cX6_whoNods 30 = .ok (.iconst 0, 1) := by decide +kernel
theorem dX6_whoNods_31 : decode cX6_whoNods 31 = .ok (.istore 4, 2) := by decide +kernel
theorem dX6_whoNods_33 : decode cX6_whoNods 33 = .ok (.iload 4, 2) := by decide +kernel
theorem dX6_whoNods_35 : decode cX6_whoNods 35 = .ok (.aload_n 0, 1) := by decide +kernel
theorem dX6_whoNods_36 : decode cX6_whoNods 36 = .ok (.getfield 71, 3) := by decide +kernel
theorem dX6_whoNods_39 : decode cX6_whoNods 39 = .ok (.if_icmp .ge 53, 3) := by decide +kernel
theorem dX6_whoNods_42 : decode cX6_whoNods 42 = .ok (.iload_n 3, 1) := by decide +kernel
theorem dX6_whoNods_43 : decode cX6_whoNods 43 = .ok (.iconst 1, 1) := by decide +kernel
theorem dX6_whoNods_44 : decode cX6_whoNods 44 = .ok (.iadd, 1) := by decide +kernel
theorem dX6_whoNods_45 : decode cX6_whoNods 45 = .ok (.aload_n 0, 1) := by decide +kernel
theorem dX6_whoNods_46 : decode cX6_whoNods 46 = .ok (.getfield 71, 3) := by decide +kernel
theorem dX6_whoNods_49 : decode cX6_whoNods 49 = .ok (.if_icmp .ge 9, 3) := by decide +kernel
theorem dX6_whoNods_52 : decode cX6_whoNods 52 = .ok (.iload_n 3, 1) := by decide +kernel
theorem dX6_whoNods_53 : decode cX6_whoNods 53 = .ok (.iconst 1, 1) := by decide +kernel
theorem dX6_whoNods_54 : decode cX6_whoNods 54 = .ok (.iadd, 1) := by decide +kernel
theorem dX6_whoNods_55 : decode cX6_whoNods 55 = .ok (.goto 4, 3) := by decide +kernel
theorem dX6_whoNods_58 : decode cX6_whoNods 58 = .ok (.iconst 0, 1) := by decide +kernel
theorem dX6_whoNods_59 : decode cX6_whoNods 59 = .ok (.istore_n 3, 1) := by decide +kernel
theorem dX6_whoNods_60 : decode cX6_whoNods 60 = .ok (.aload_n 0, 1) := by decide +kernel
theorem dX6_whoNods_61 : decode cX6_whoNods 61 = .ok (.iload_n 3, 1) := by decide +kernel
theorem dX6_whoNods_62 : decode cX6_whoNods 62 = .ok (.invokevirtual 181, 3) := by decide +kernel
theorem dX6_whoNods_65 : decode cX6_whoNods 65 = .ok (.ifCond .ne 21, 3) := by decide +kernel
theorem dX6_whoNods_68 : decode cX6_whoNods 68 = .ok (.aload_n 0, 1) := by decide +kernel
theorem dX6_whoNods_69 : decode cX6_whoNods 69 = .ok (.getfield 27, 3) := by decide +kernel
theorem dX6_whoNods_72 : decode cX6_whoNods 72 = .ok (.iload_n 3, 1) := by decide +kernel
theorem dX6_whoNods_73 : decode cX6_whoNods 73 = .ok (.aaload, 1) := by decide +kernel
theorem dX6_whoNods_74 : decode cX6_whoNods 74 = .ok (.aload_n 1, 1) := by decide +kernel
theorem dX6_whoNods_75 : decode cX6_whoNods 75 = .ok (.invokevirtual 166, 3) := by decide +kernel
theorem dX6_whoNods_78 : decode cX6_whoNods 78 = .ok (.iload_n 2, 1) := by decide +kernel
theorem dX6_whoNods_79 : decode cX6_whoNods 79 = .ok (.i2d, 1) := by decide +kernel
theorem dX6_whoNods_80 : decode cX6_whoNods 80 = .ok (.dcmp .l, 1) := by decide +kernel
theorem dX6_whoNods_81 : decode cX6_whoNods 81 = .ok (.ifCond .lt 5, 3) := by decide +kernel
theorem dX6_whoNods_84 : decode cX6_whoNods 84 = .ok (.iload_n 3, 1) := by decide +kernel
theorem dX6_whoNods_85 : decode cX6_whoNods 85 = .ok (.ireturn, 1) := by decide +kernel
theorem dX6_whoNods_86 : decode cX6_whoNods 86 = .ok (.iinc 4 1, 3) := by decide +kernel
theorem dX6_whoNods_89 : decode cX6_whoNods 89 = .ok (.goto (-56), 3) := by decide +kernel
theorem dX6_whoNods_92 : decode cX6_whoNods 92 = .ok (.iconst (-1), 1) := by decide +kernel
theorem dX6_whoNods_93 : decode cX6_whoNods 93 = .ok (.ireturn, 1) := by decide +kernel
theorem dX6_takeNod_0 : decode cX6_takeNod 0 = .ok (.aload_n 0, 1) := by decide +kernel
theorem dX6_takeNod_1 : decode cX6_takeNod 1 = .ok (.iload_n 1, 1) := by decide +kernel
theorem dX6_takeNod_2 : decode cX6_takeNod 2 = .ok (.invokevirtual 156, 3) := by decide +kernel
theorem dX6_takeNod_5 : decode cX6_takeNod 5 = .ok (.ifCond .eq 36, 3) := by decide +kernel
theorem dX6_takeNod_8 : decode cX6_takeNod 8 = .ok (.aload_n 0, 1) := by decide +kernel
theorem dX6_takeNod_9 : decode cX6_takeNod 9 = .ok (.aload_n 0, 1) := by decide +kernel
theorem dX6_takeNod_10 : decode cX6_takeNod 10 = .ok (.invokevirtual 173, 3) := by decide +kernel
theorem dX6_takeNod_13 : decode cX6_takeNod 13 = .ok (.putfield 44, 3) := by decide +kernel
theorem dX6_takeNod_16 : decode cX6_takeNod 16 = .ok (.aload_n 0, 1) := by decide +kernel
theorem dX6_takeNod_17 : decode cX6_takeNod 17 = .ok (.iload_n 1, 1) := by decide +kernel
theorem dX6_takeNod_18 : decode cX6_takeNod 18 = .ok (.putfield 47, 3) := by decide +kernel
theorem dX6_takeNod_21 : decode cX6_takeNod 21 = .ok (.aload_n 0, 1) := by decide +kernel
theorem dX6_takeNod_22 : decode cX6_takeNod 22 = .ok (.iconst 0, 1) := by decide +kernel
theorem dX6_takeNod_23 : decode cX6_takeNod 23 = .ok (.putfield 50, 3) := by decide +kernel
theorem dX6_takeNod_26 : decode cX6_takeNod 26 = .ok (.aload_n 0, 1) := by decide +kernel
theorem dX6_takeNod_27 : decode cX6_takeNod 27 = .ok (.getfield 27, 3) := by decide +kernel
theorem dX6_takeNod_30 : decode cX6_takeNod 30 = .ok (.iload_n 1, 1) := by decide +kernel
theorem dX6_takeNod_31 : decode cX6_takeNod 31 = .ok (.aaload, 1) := by decide +kernel
theorem dX6_takeNod_32 : decode cX6_takeNod 32 = .ok (.dup, 1) := by decide +kernel
theorem dX6_takeNod_33 : decode cX6_takeNod 33 = .ok (.getfield 184, 3) := by decide +kernel
theorem dX6_takeNod_36 : decode cX6_takeNod 36 = .ok (.iconst 1, 1) := by decide +kernel
theorem dX6_takeNod_37 : decode cX6_takeNod 37 = .ok (.iadd, 1) := by decide +kernel
theorem dX6_takeNod_38 : decode cX6_takeNod 38 = .ok (.putfield 184, 3) := by decide +kernel
theorem dX6_takeNod_41 : decode cX6_takeNod 41 = .ok (.return_, 1) := by decide +kernel
theorem dX6_letPass_0 : decode cX6_letPass 0 = .ok (.iconst 0, 1) := by decide +kernel
theorem dX6_letPass_1 : decode cX6_letPass 1 = .ok (.istore_n 2, 1) := by decide +kernel
theorem dX6_letPass_2 : decode cX6_letPass 2 = .ok (.iconst 0, 1) := by decide +kernel
theorem dX6_letPass_3 : decode cX6_letPass 3 = .ok (.istore_n 3, 1) := by decide +kernel
theorem dX6_letPass_4 : decode cX6_letPass 4 = .ok (.iload_n 3, 1) := by decide +kernel
theorem dX6_letPass_5 : decode cX6_letPass 5 = .ok (.iload_n 1, 1) := by decide +kernel
theorem dX6_letPass_6 : decode cX6_letPass 6 = .ok (.if_icmp .ge 43, 3) := by decide +kernel
theorem dX6_letPass_9 : decode cX6_letPass 9 = .ok (.aload_n 0, 1) := by decide +kernel
theorem dX6_letPass_10 : decode cX6_letPass 10 = .ok (.invokevirtual 187, 3) := by decide +kernel
theorem dX6_letPass_13 : decode cX6_letPass 13 = .ok (.ifCond .eq 20, 3) := by decide +kernel
theorem dX6_letPass_16 : decode cX6_letPass 16 = .ok (.aload_n 0, 1) := by decide +kernel
theorem dX6_letPass_17 : decode cX6_letPass 17 = .ok (.getfield 12, 3) := by decide +kernel
theorem dX6_letPass_20 : decode cX6_letPass 20 = .ok (.dup, 1) := by decide +kernel
theorem dX6_letPass_21 : decode cX6_letPass 21 = .ok (.getfield 92, 3) := by decide +kernel
theorem dX6_letPass_24 : decode cX6_letPass 24 = .ok (.iload_n 1, 1) := by decide +kernel
theorem dX6_letPass_25 : decode cX6_letPass 25 = .ok (.iload_n 3, 1) := by decide +kernel
theorem dX6_letPass_26 : decode cX6_letPass 26 = .ok (.isub, 1) := by decide +kernel
theorem dX6_letPass_27 : decode cX6_letPass 27 = .ok (.iadd, 1) := by decide +kernel
theorem dX6_letPass_28 : decode cX6_letPass 28 = .ok (.putfield 92, 3) := by decide +kernel
theorem dX6_letPass_31 : decode cX6_letPass 31 = .ok (.iload_n 2, 1) := by decide +kernel
theorem dX6_letPass_32 : decode cX6_letPass 32 = .ok (.ireturn, 1) := by decide +kernel
theorem dX6_letPass_33 : decode cX6_letPass 33 = .ok (.aload_n 0, 1) := by decide +kernel
theorem dX6_letPass_34 : decode cX6_letPass 34 = .ok (.invokevirtual 190, 3) := by decide +kernel
theorem dX6_letPass_37 : decode cX6_letPass 37 = .ok (.ifCond .eq 6, 3) := by decide +kernel
theorem dX6_letPass_40 : decode cX6_letPass 40 = .ok (.iinc 2 1, 3) := by decide +kernel
theorem dX6_letPass_43 : decode cX6_letPass 43 = .ok (.iinc 3 1, 3) := by decide +kernel
theorem dX6_letPass_46 : decode cX6_letPass 46 = .ok (.goto (-42), 3) := by decide +kernel
theorem dX6_letPass_49 : decode cX6_letPass 49 = .ok (.iload_n 2, 1) := by decide +kernel
theorem dX6_letPass_50 : decode cX6_letPass 50 = .ok (.ireturn, 1) := by decide +kernel
theorem dX6_execute_0 : decode cX6_execute 0 = .ok (.getstatic 193, 3) := by decide +kernel
theorem dX6_execute_3 : decode cX6_execute 3 = .ok (.aload_n 1, 1) := by decide +kernel
theorem dX6_execute_4 : decode cX6_execute 4 = .ok (.getfield 198, 3) := by decide +kernel
theorem dX6_execute_7 : decode cX6_execute 7 = .ok (.invokevirtual 204, 3) := by decide +kernel
theorem dX6_execute_10 : decode cX6_execute 10 = .ok (.iaload, 1) := by decide +kernel
theorem dX6_execute_11 : decode cX6_execute 11 = .ok (.tableswitch 137 1 5 #[33, 67, 78, 100, 114], 33) := by decide +kernel
theorem dX6_execute_44 : decode cX6_execute 44 = .ok (.aload_n 0, 1) := by decide +kernel
theorem dX6_execute_45 : decode cX6_execute 45 = .ok (.aload_n 1, 1) := by decide +kernel
theorem dX6_execute_46 : decode cX6_execute 46 = .ok (.getfield 209, 3) := by decide +kernel
theorem dX6_execute_49 : decode cX6_execute 49 = .ok (.invokevirtual 156, 3) := by decide +kernel
theorem dX6_execute_52 : decode cX6_execute 52 = .ok (.ifCond .eq 14, 3) := by decide +kernel
theorem dX6_execute_55 : decode cX6_execute 55 = .ok (.aload_n 0, 1) := by decide +kernel
theorem dX6_execute_56 : decode cX6_execute 56 = .ok (.aload_n 1, 1) := by decide +kernel
theorem dX6_execute_57 : decode cX6_execute 57 = .ok (.getfield 209, 3) := by decide +kernel
theorem dX6_execute_60 : decode cX6_execute 60 = .ok (.invokevirtual 181, 3) := by decide +kernel
theorem dX6_execute_63 : decode cX6_execute 63 = .ok (.ifCond .eq 5, 3) := by decide +kernel
theorem dX6_execute_66 : decode cX6_execute 66 = .ok (.iconst 0, 1) := by decide +kernel
theorem dX6_execute_67 : decode cX6_execute 67 = .ok (.ireturn, 1) := by decide +kernel
theorem dX6_execute_68 : decode cX6_execute 68 = .ok (.aload_n 0, 1) := by decide +kernel
theorem dX6_execute_69 : decode cX6_execute 69 = .ok (.aload_n 1, 1) := by decide +kernel
theorem dX6_execute_70 : decode cX6_execute 70 = .ok (.getfield 209, 3) := by decide +kernel
theorem dX6_execute_73 : decode cX6_execute 73 = .ok (.invokevirtual 212, 3) := by decide +kernel
theorem dX6_execute_76 : decode cX6_execute 76 = .ok (.iconst 1, 1) := by decide +kernel
theorem dX6_execute_77 : decode cX6_execute 77 = .ok (.ireturn, 1) := by decide +kernel
theorem dX6_execute_78 : decode cX6_execute 78 = .ok (.aload_n 0, 1) := by decide +kernel
theorem dX6_execute_79 : decode cX6_execute 79 = .ok (.aload_n 1, 1) := by decide +kernel
theorem dX6_execute_80 : decode cX6_execute 80 = .ok (.getfield 209, 3) := by decide +kernel
theorem dX6_execute_83 : decode cX6_execute 83 = .ok (.invokevirtual 215, 3) := by decide +kernel
theorem dX6_execute_86 : decode cX6_execute 86 = .ok (.pop, 1) := by decide +kernel
theorem dX6_execute_87 : decode cX6_execute 87 = .ok (.iconst 1, 1) := by decide +kernel
theorem dX6_execute_88 : decode cX6_execute 88 = .ok (.ireturn, 1) := by decide +kernel
theorem dX6_execute_89 : decode cX6_execute 89 = .ok (.aload_n 0, 1) := by decide +kernel
theorem dX6_execute_90 : decode cX6_execute 90 = .ok (.aload_n 1, 1) := by decide +kernel
theorem dX6_execute_91 : decode cX6_execute 91 = .ok (.getfield 209, 3) := by decide +kernel
theorem dX6_execute_94 : decode cX6_execute 94 = .ok (.aload_n 1, 1) := by decide +kernel
theorem dX6_execute_95 : decode cX6_execute 95 = .ok (.getfield 218, 3) := by decide +kernel
theorem dX6_execute_98 : decode cX6_execute 98 = .ok (.invokevirtual 221, 3) := by decide +kernel
theorem dX6_execute_101 : decode cX6_execute 101 = .ok (.iconst (-1), 1) := by decide +kernel
theorem dX6_execute_102 : decode cX6_execute 102 = .ok (.if_icmp .eq 7, 3) := by decide +kernel
theorem dX6_execute_105 : decode cX6_execute 105 = .ok (.iconst 1, 1) := by decide +kernel
theorem dX6_execute_106 : decode cX6_execute 106 = .ok (.goto 4, 3) := by decide +kernel
theorem dX6_execute_109 : decode cX6_execute 109 = .ok (.iconst 0, 1) := by decide +kernel
theorem dX6_execute_110 : decode cX6_execute 110 = .ok (.ireturn, 1) := by decide +kernel
theorem dX6_execute_111 : decode cX6_execute 111 = .ok (.aload_n 0, 1) := by decide +kernel
theorem dX6_execute_112 : decode cX6_execute 112 = .ok (.aload_n 1, 1) := by decide +kernel
theorem dX6_execute_113 : decode cX6_execute 113 = .ok (.getfield 209, 3) := by decide +kernel
theorem dX6_execute_116 : decode cX6_execute 116 = .ok (.aload_n 1, 1) := by decide +kernel
theorem dX6_execute_117 : decode cX6_execute 117 = .ok (.getfield 218, 3) := by decide +kernel
theorem dX6_execute_120 : decode cX6_execute 120 = .ok (.invokevirtual 224, 3) := by decide +kernel
theorem dX6_execute_123 : decode cX6_execute 123 = .ok (.iconst 1, 1) := by decide +kernel
theorem dX6_execute_124 : decode cX6_execute 124 = .ok (.ireturn, 1) := by decide +kernel
theorem dX6_execute_125 : decode cX6_execute 125 = .ok (.aload_n 0, 1) := by decide +kernel
theorem dX6_execute_126 : decode cX6_execute 126 = .ok (.aload_n 1, 1) := by decide +kernel
theorem dX6_execute_127 : decode cX6_execute 127 = .ok (.getfield 209, 3) := by decide +kernel
theorem dX6_execute_130 : decode cX6_execute 130 = .ok (.invokevirtual 105, 3) := by decide +kernel
theorem dX6_execute_133 : decode cX6_execute 133 = .ok (.ifCond .ne 5, 3) := by decide +kernel
theorem dX6_execute_136 : decode cX6_execute 136 = .ok (.iconst 0, 1) := by decide +kernel
theorem dX6_execute_137 : decode cX6_execute 137 = .ok (.ireturn, 1) := by decide +kernel
theorem dX6_execute_138 : decode cX6_execute 138 = .ok (.aload_n 0, 1) := by decide +kernel
theorem dX6_execute_139 : decode cX6_execute 139 = .ok (.aload_n 1, 1) := by decide +kernel
theorem dX6_execute_140 : decode cX6_execute 140 = .ok (.getfield 209, 3) := by decide +kernel
theorem dX6_execute_143 : decode cX6_execute 143 = .ok (.invokevirtual 228, 3) := by decide +kernel
theorem dX6_execute_146 : decode cX6_execute 146 = .ok (.iconst 1, 1) := by decide +kernel
theorem dX6_execute_147 : decode cX6_execute 147 = .ok (.ireturn, 1) := by decide +kernel
theorem dX6_execute_148 : decode cX6_execute 148 = .ok (.aload_n 0, 1) := by decide +kernel
theorem dX6_execute_149 : decode cX6_execute 149 = .ok (.aload_n 1, 1) := by decide +kernel
theorem dX6_execute_150 : decode cX6_execute 150 = .ok (.getfield 209, 3) := by decide +kernel
theorem dX6_execute_153 : decode cX6_execute 153 = .ok (.aload_n 1, 1) := by decide +kernel
theorem dX6_execute_154 : decode cX6_execute 154 = .ok (.getfield 231, 3) := by decide +kernel
theorem dX6_execute_157 : decode cX6_execute 157 = .ok (.iconst 0, 1) := by decide +kernel
theorem dX6_execute_158 : decode cX6_execute 158 = .ok (.aload_n 1, 1) := by decide +kernel
theorem dX6_execute_159 : decode cX6_execute 159 = .ok (.getfield 232, 3) := by decide +kernel
theorem dX6_execute_162 : decode cX6_execute 162 = .ok (.invokevirtual 146, 3) := by decide +kernel
theorem dX6_execute_165 : decode cX6_execute 165 = .ok (.iconst (-1), 1) := by decide +kernel
theorem dX6_execute_166 : decode cX6_execute 166 = .ok (.if_icmp .eq 7, 3) := by decide +kernel
theorem dX6_execute_169 : decode cX6_execute 169 = .ok (.iconst 1, 1) := by decide +kernel
theorem dX6_execute_170 : decode cX6_execute 170 = .ok (.goto 4, 3) := by decide +kernel
theorem dX6_execute_173 : decode cX6_execute 173 = .ok (.iconst 0, 1) := by decide +kernel
theorem dX6_execute_174 : decode cX6_execute 174 = .ok (.ireturn, 1) := by decide +kernel
theorem dX6_isIdle_0 : decode cX6_isIdle 0 = .ok (.aload_n 0, 1) := by decide +kernel
theorem dX6_isIdle_1 : decode cX6_isIdle 1 = .ok (.getfield 41, 3) := by decide +kernel
theorem dX6_isIdle_4 : decode cX6_isIdle 4 = .ok (.iconst (-1), 1) := by decide +kernel
theorem dX6_isIdle_5 : decode cX6_isIdle 5 = .ok (.if_icmp .ne 14, 3) := by decide +kernel
theorem dX6_isIdle_8 : decode cX6_isIdle 8 = .ok (.aload_n 0, 1) := by decide +kernel
theorem dX6_isIdle_9 : decode cX6_isIdle 9 = .ok (.getfield 89, 3) := by decide +kernel
theorem dX6_isIdle_12 : decode cX6_isIdle 12 = .ok (.ifCond .ne 7, 3) := by decide +kernel
theorem dX6_isIdle_15 : decode cX6_isIdle 15 = .ok (.iconst 1, 1) := by decide +kernel
theorem dX6_isIdle_16 : decode cX6_isIdle 16 = .ok (.goto 4, 3) := by decide +kernel
theorem dX6_isIdle_19 : decode cX6_isIdle 19 = .ok (.iconst 0, 1) := by decide +kernel
theorem dX6_isIdle_20 : decode cX6_isIdle 20 = .ok (.ireturn, 1) := by decide +kernel
theorem dX6_passOneMinute_0 : decode cX6_passOneMinute 0 = .ok (.aload_n 0, 1) := by decide +kernel
theorem dX6_passOneMinute_1 : decode cX6_passOneMinute 1 = .ok (.getfield 12, 3) := by decide +kernel
theorem dX6_passOneMinute_4 : decode cX6_passOneMinute 4 = .ok (.dup, 1) := by decide +kernel
theorem dX6_passOneMinute_5 : decode cX6_passOneMinute 5 = .ok (.getfield 92, 3) := by decide +kernel
theorem dX6_passOneMinute_8 : decode cX6_passOneMinute 8 = .ok (.iconst 1, 1) := by decide +kernel
theorem dX6_passOneMinute_9 : decode cX6_passOneMinute 9 = .ok (.iadd, 1) := by decide +kernel
theorem dX6_passOneMinute_10 : decode cX6_passOneMinute 10 = .ok (.putfield 92, 3) := by decide +kernel
theorem dX6_passOneMinute_13 : decode cX6_passOneMinute 13 = .ok (.aload_n 0, 1) := by decide +kernel
theorem dX6_passOneMinute_14 : decode cX6_passOneMinute 14 = .ok (.getfield 12, 3) := by decide +kernel
theorem dX6_passOneMinute_17 : decode cX6_passOneMinute 17 = .ok (.invokevirtual 233, 3) := by decide +kernel
theorem dX6_passOneMinute_20 : decode cX6_passOneMinute 20 = .ok (.ifCond .eq 8, 3) := by decide +kernel
theorem dX6_passOneMinute_23 : decode cX6_passOneMinute 23 = .ok (.aload_n 0, 1) := by decide +kernel
theorem dX6_passOneMinute_24 : decode cX6_passOneMinute 24 = .ok (.invokevirtual 236, 3) := by decide +kernel
theorem dX6_passOneMinute_27 : decode cX6_passOneMinute 27 = .ok (.ireturn, 1) := by decide +kernel
theorem dX6_passOneMinute_28 : decode cX6_passOneMinute 28 = .ok (.aload_n 0, 1) := by decide +kernel
theorem dX6_passOneMinute_29 : decode cX6_passOneMinute 29 = .ok (.getfield 12, 3) := by decide +kernel
theorem dX6_passOneMinute_32 : decode cX6_passOneMinute 32 = .ok (.invokevirtual 170, 3) := by decide +kernel
theorem dX6_passOneMinute_35 : decode cX6_passOneMinute 35 = .ok (.ifCond .ne 5, 3) := by decide +kernel
theorem dX6_passOneMinute_38 : decode cX6_passOneMinute 38 = .ok (.iconst 0, 1) := by decide +kernel
theorem dX6_passOneMinute_39 : decode cX6_passOneMinute 39 = .ok (.ireturn, 1) := by decide +kernel
theorem dX6_passOneMinute_40 : decode cX6_passOneMinute 40 = .ok (.aload_n 0, 1) := by decide +kernel
theorem dX6_passOneMinute_41 : decode cX6_passOneMinute 41 = .ok (.getfield 41, 3) := by decide +kernel
theorem dX6_passOneMinute_44 : decode cX6_passOneMinute 44 = .ok (.iconst (-1), 1) := by decide +kernel
theorem dX6_passOneMinute_45 : decode cX6_passOneMinute 45 = .ok (.if_icmp .ne 9, 3) := by decide +kernel
theorem dX6_passOneMinute_48 : decode cX6_passOneMinute 48 = .ok (.aload_n 0, 1) := by decide +kernel
theorem dX6_passOneMinute_49 : decode cX6_passOneMinute 49 = .ok (.invokevirtual 239, 3) := by decide +kernel
theorem dX6_passOneMinute_52 : decode cX6_passOneMinute 52 = .ok (.iconst 0, 1) := by decide +kernel
theorem dX6_passOneMinute_53 : decode cX6_passOneMinute 53 = .ok (.ireturn, 1) := by decide +kernel
theorem dX6_passOneMinute_54 : decode cX6_passOneMinute 54 = .ok (.aload_n 0, 1) := by decide +kernel
theorem dX6_passOneMinute_55 : decode cX6_passOneMinute 55 = .ok (.invokevirtual 242, 3) := by decide +kernel
theorem dX6_passOneMinute_58 : decode cX6_passOneMinute 58 = .ok (.istore_n 1, 1) := by decide +kernel
theorem dX6_passOneMinute_59 : decode cX6_passOneMinute 59 = .ok (.iload_n 1, 1) := by decide +kernel
theorem dX6_passOneMinute_60 : decode cX6_passOneMinute 60 = .ok (.iconst (-1), 1) := by decide +kernel
theorem dX6_passOneMinute_61 : decode cX6_passOneMinute 61 = .ok (.if_icmp .eq 10, 3) := by decide +kernel
theorem dX6_passOneMinute_64 : decode cX6_passOneMinute 64 = .ok (.aload_n 0, 1) := by decide +kernel
theorem dX6_passOneMinute_65 : decode cX6_passOneMinute 65 = .ok (.iload_n 1, 1) := by decide +kernel
theorem dX6_passOneMinute_66 : decode cX6_passOneMinute 66 = .ok (.invokevirtual 212, 3) := by decide +kernel
theorem dX6_passOneMinute_69 : decode cX6_passOneMinute 69 = .ok (.iconst 0, 1) := by decide +kernel
theorem dX6_passOneMinute_70 : decode cX6_passOneMinute 70 = .ok (.ireturn, 1) := by decide +kernel
theorem dX6_passOneMinute_71 : decode cX6_passOneMinute 71 = .ok (.aload_n 0, 1) := by decide +kernel
theorem dX6_passOneMinute_72 : decode cX6_passOneMinute 72 = .ok (.dup, 1) := by decide +kernel
theorem dX6_passOneMinute_73 : decode cX6_passOneMinute 73 = .ok (.getfield 50, 3) := by decide +kernel
theorem dX6_passOneMinute_76 : decode cX6_passOneMinute 76 = .ok (.iconst 1, 1) := by decide +kernel
theorem dX6_passOneMinute_77 : decode cX6_passOneMinute 77 = .ok (.iadd, 1) := by decide +kernel
theorem dX6_passOneMinute_78 : decode cX6_passOneMinute 78 = .ok (.putfield 50, 3) := by decide +kernel
theorem dX6_passOneMinute_81 : decode cX6_passOneMinute 81 = .ok (.aload_n 0, 1) := by decide +kernel
theorem dX6_passOneMinute_82 : decode cX6_passOneMinute 82 = .ok (.getfield 50, 3) := by decide +kernel
theorem dX6_passOneMinute_85 : decode cX6_passOneMinute 85 = .ok (.aload_n 0, 1) := by decide +kernel
theorem dX6_passOneMinute_86 : decode cX6_passOneMinute 86 = .ok (.getfield 18, 3) := by decide +kernel
theorem dX6_passOneMinute_89 : decode cX6_passOneMinute 89 = .ok (.if_icmp .ne 14, 3) := by decide +kernel
theorem dX6_passOneMinute_92 : decode cX6_passOneMinute 92 = .ok (.aload_n 0, 1) := by decide +kernel
theorem dX6_passOneMinute_93 : decode cX6_passOneMinute 93 = .ok (.invokevirtual 236, 3) := by decide +kernel
theorem dX6_passOneMinute_96 : decode cX6_passOneMinute 96 = .ok (.ifCond .eq 7, 3) := by decide +kernel
theorem dX6_passOneMinute_99 : decode cX6_passOneMinute 99 = .ok (.iconst 1, 1) := by decide +kernel
theorem dX6_passOneMinute_100 : decode cX6_passOneMinute 100 = .ok (.goto 4, 3) := by decide +kernel
theorem dX6_passOneMinute_103 : decode cX6_passOneMinute 103 = .ok (.iconst 0, 1) := by decide +kernel
theorem dX6_passOneMinute_104 : decode cX6_passOneMinute 104 = .ok (.ireturn, 1) := by decide +kernel
theorem dX6_openFirst_0 : decode cX6_openFirst 0 = .ok (.aload_n 0, 1) := by decide +kernel
theorem dX6_openFirst_1 : decode cX6_openFirst 1 = .ok (.getfield 89, 3) := by decide +kernel
theorem dX6_openFirst_4 : decode cX6_openFirst 4 = .ok (.ifCond .le 39, 3) := by decide +kernel
theorem dX6_openFirst_7 : decode cX6_openFirst 7 = .ok (.aload_n 0, 1) := by decide +kernel
theorem dX6_openFirst_8 : decode cX6_openFirst 8 = .ok (.aload_n 0, 1) := by decide +kernel
theorem dX6_openFirst_9 : decode cX6_openFirst 9 = .ok (.getfield 37, 3) := by decide +kernel
theorem dX6_openFirst_12 : decode cX6_openFirst 12 = .ok (.iconst 0, 1) := by decide +kernel
theorem dX6_openFirst_13 : decode cX6_openFirst 13 = .ok (.iaload, 1) := by decide +kernel
theorem dX6_openFirst_14 : decode cX6_openFirst 14 = .ok (.putfield 41, 3) := by decide +kernel
theorem dX6_openFirst_17 : decode cX6_openFirst 17 = .ok (.aload_n 0, 1) := by decide +kernel
theorem dX6_openFirst_18 : decode cX6_openFirst 18 = .ok (.iconst 0, 1) := by decide +kernel
theorem dX6_openFirst_19 : decode cX6_openFirst 19 = .ok (.putfield 50, 3) := by decide +kernel
theorem dX6_openFirst_22 : decode cX6_openFirst 22 = .ok (.aload_n 0, 1) := by decide +kernel
theorem dX6_openFirst_23 : decode cX6_openFirst 23 = .ok (.getfield 33, 3) := by decide +kernel
theorem dX6_openFirst_26 : decode cX6_openFirst 26 = .ok (.aload_n 0, 1) := by decide +kernel
theorem dX6_openFirst_27 : decode cX6_openFirst 27 = .ok (.getfield 41, 3) := by decide +kernel
theorem dX6_openFirst_30 : decode cX6_openFirst 30 = .ok (.aaload, 1) := by decide +kernel
theorem dX6_openFirst_31 : decode cX6_openFirst 31 = .ok (.iconst 1, 1) := by decide +kernel
theorem dX6_openFirst_32 : decode cX6_openFirst 32 = .ok (.putfield 102, 3) := by decide +kernel
theorem dX6_openFirst_35 : decode cX6_openFirst 35 = .ok (.aload_n 0, 1) := by decide +kernel
theorem dX6_openFirst_36 : decode cX6_openFirst 36 = .ok (.aload_n 0, 1) := by decide +kernel
theorem dX6_openFirst_37 : decode cX6_openFirst 37 = .ok (.getfield 41, 3) := by decide +kernel
theorem dX6_openFirst_40 : decode cX6_openFirst 40 = .ok (.invokevirtual 153, 3) := by decide +kernel
theorem dX6_openFirst_43 : decode cX6_openFirst 43 = .ok (.return_, 1) := by decide +kernel
theorem dX6_closeBarrel_0 : decode cX6_closeBarrel 0 = .ok (.aload_n 0, 1) := by decide +kernel
theorem dX6_closeBarrel_1 : decode cX6_closeBarrel 1 = .ok (.getfield 41, 3) := by decide +kernel
theorem dX6_closeBarrel_4 : decode cX6_closeBarrel 4 = .ok (.iconst (-1), 1) := by decide +kernel
theorem dX6_closeBarrel_5 : decode cX6_closeBarrel 5 = .ok (.if_icmp .ne 5, 3) := by decide +kernel
theorem dX6_closeBarrel_8 : decode cX6_closeBarrel 8 = .ok (.iconst 0, 1) := by decide +kernel
theorem dX6_closeBarrel_9 : decode cX6_closeBarrel 9 = .ok (.ireturn, 1) := by decide +kernel
theorem dX6_closeBarrel_10 : decode cX6_closeBarrel 10 = .ok (.aload_n 0, 1) := by decide +kernel
theorem dX6_closeBarrel_11 : decode cX6_closeBarrel 11 = .ok (.getfield 47, 3) := by decide +kernel
theorem dX6_closeBarrel_14 : decode cX6_closeBarrel 14 = .ok (.iconst (-1), 1) := by decide +kernel
theorem dX6_closeBarrel_15 : decode cX6_closeBarrel 15 = .ok (.if_icmp .eq 7, 3) := by decide +kernel
theorem dX6_closeBarrel_18 : decode cX6_closeBarrel 18 = .ok (.iconst 1, 1) := by decide +kernel
theorem dX6_closeBarrel_19 : decode cX6_closeBarrel 19 = .ok (.goto 4, 3) := by decide +kernel
theorem dX6_closeBarrel_22 : decode cX6_closeBarrel 22 = .ok (.iconst 0, 1) := by decide +kernel
theorem dX6_closeBarrel_23 : decode cX6_closeBarrel 23 = .ok (.istore_n 1, 1) := by decide +kernel
theorem dX6_closeBarrel_24 : decode cX6_closeBarrel 24 = .ok (.iload_n 1, 1) := by decide +kernel
theorem dX6_closeBarrel_25 : decode cX6_closeBarrel 25 = .ok (.ifCond .eq 28, 3) := by decide +kernel
theorem dX6_closeBarrel_28 : decode cX6_closeBarrel 28 = .ok (.aload_n 0, 1) := by decide +kernel
theorem dX6_closeBarrel_29 : decode cX6_closeBarrel 29 = .ok (.aload_n 0, 1) := by decide +kernel
theorem dX6_closeBarrel_30 : decode cX6_closeBarrel 30 = .ok (.getfield 33, 3) := by decide +kernel
theorem dX6_closeBarrel_33 : decode cX6_closeBarrel 33 = .ok (.aload_n 0, 1) := by decide +kernel
theorem dX6_closeBarrel_34 : decode cX6_closeBarrel 34 = .ok (.getfield 41, 3) := by decide +kernel
theorem dX6_closeBarrel_37 : decode cX6_closeBarrel 37 = .ok (.aaload, 1) := by decide +kernel
theorem dX6_closeBarrel_38 : decode cX6_closeBarrel 38 = .ok (.aload_n 0, 1) := by decide +kernel
theorem dX6_closeBarrel_39 : decode cX6_closeBarrel 39 = .ok (.getfield 27, 3) := by decide +kernel
theorem dX6_closeBarrel_42 : decode cX6_closeBarrel 42 = .ok (.aload_n 0, 1) := by decide +kernel
theorem dX6_closeBarrel_43 : decode cX6_closeBarrel 43 = .ok (.getfield 47, 3) := by decide +kernel
theorem dX6_closeBarrel_46 : decode cX6_closeBarrel 46 = .ok (.aaload, 1) := by decide +kernel
theorem dX6_closeBarrel_47 : decode cX6_closeBarrel 47 = .ok (.invokevirtual 245, 3) := by decide +kernel
theorem dX6_closeBarrel_50 : decode cX6_closeBarrel 50 = .ok (.goto 11, 3) := by decide +kernel
theorem dX6_closeBarrel_53 : decode cX6_closeBarrel 53 = .ok (.aload_n 0, 1) := by decide +kernel
theorem dX6_closeBarrel_54 : decode cX6_closeBarrel 54 = .ok (.aload_n 0, 1) := by decide +kernel
theorem dX6_closeBarrel_55 : decode cX6_closeBarrel 55 = .ok (.getfield 41, 3) := by decide +kernel
theorem dX6_closeBarrel_58 : decode cX6_closeBarrel 58 = .ok (.invokevirtual 249, 3) := by decide +kernel
theorem dX6_closeBarrel_61 : decode cX6_closeBarrel 61 = .ok (.aload_n 0, 1) := by decide +kernel
theorem dX6_closeBarrel_62 : decode cX6_closeBarrel 62 = .ok (.invokevirtual 95, 3) := by decide +kernel
theorem dX6_closeBarrel_65 : decode cX6_closeBarrel 65 = .ok (.iload_n 1, 1) := by decide +kernel
theorem dX6_closeBarrel_66 : decode cX6_closeBarrel 66 = .ok (.ireturn, 1) := by decide +kernel
theorem dX6_sell_0 : decode cX6_sell 0 = .ok (.aload_n 0, 1) := by decide +kernel
theorem dX6_sell_1 : decode cX6_sell 1 = .ok (.aload_n 0, 1) := by decide +kernel
theorem dX6_sell_2 : decode cX6_sell 2 = .ok (.getfield 44, 3) := by decide +kernel
theorem dX6_sell_5 : decode cX6_sell 5 = .ok (.invokevirtual 177, 3) := by decide +kernel
theorem dX6_sell_8 : decode cX6_sell 8 = .ok (.istore_n 3, 1) := by decide +kernel
theorem dX6_sell_9 : decode cX6_sell 9 = .ok (.aload_n 2, 1) := by decide +kernel
theorem dX6_sell_10 : decode cX6_sell 10 = .ok (.dup, 1) := by decide +kernel
theorem dX6_sell_11 : decode cX6_sell 11 = .ok (.getfield 160, 3) := by decide +kernel
theorem dX6_sell_14 : decode cX6_sell 14 = .ok (.iload_n 3, 1) := by decide +kernel
theorem dX6_sell_15 : decode cX6_sell 15 = .ok (.isub, 1) := by decide +kernel
theorem dX6_sell_16 : decode cX6_sell 16 = .ok (.putfield 160, 3) := by decide +kernel
theorem dX6_sell_19 : decode cX6_sell 19 = .ok (.aload_n 2, 1) := by decide +kernel
theorem dX6_sell_20 : decode cX6_sell 20 = .ok (.dup, 1) := by decide +kernel
theorem dX6_sell_21 : decode cX6_sell 21 = .ok (.getfield 252, 3) := by decide +kernel
theorem dX6_sell_24 : decode cX6_sell 24 = .ok (.iconst 1, 1) := by decide +kernel
theorem dX6_sell_25 : decode cX6_sell 25 = .ok (.iadd, 1) := by decide +kernel
theorem dX6_sell_26 : decode cX6_sell 26 = .ok (.putfield 252, 3) := by decide +kernel
theorem dX6_sell_29 : decode cX6_sell 29 = .ok (.aload_n 0, 1) := by decide +kernel
theorem dX6_sell_30 : decode cX6_sell 30 = .ok (.dup, 1) := by decide +kernel
theorem dX6_sell_31 : decode cX6_sell 31 = .ok (.getfield 62, 3) := by decide +kernel
theorem dX6_sell_34 : decode cX6_sell 34 = .ok (.aload_n 0, 1) := by decide +kernel
theorem dX6_sell_35 : decode cX6_sell 35 = .ok (.getfield 44, 3) := by decide +kernel
theorem dX6_sell_38 : decode cX6_sell 38 = .ok (.iadd, 1) := by decide +kernel
theorem dX6_sell_39 : decode cX6_sell 39 = .ok (.putfield 62, 3) := by decide +kernel
theorem dX6_sell_42 : decode cX6_sell 42 = .ok (.aload_n 0, 1) := by decide +kernel
theorem dX6_sell_43 : decode cX6_sell 43 = .ok (.dup, 1) := by decide +kernel
theorem dX6_sell_44 : decode cX6_sell 44 = .ok (.getfield 65, 3) := by decide +kernel
theorem dX6_sell_47 : decode cX6_sell 47 = .ok (.iload_n 3, 1) := by decide +kernel
theorem dX6_sell_48 : decode cX6_sell 48 = .ok (.aload_n 0, 1) := by decide +kernel
theorem dX6_sell_49 : decode cX6_sell 49 = .ok (.getfield 44, 3) := by decide +kernel
theorem dX6_sell_52 : decode cX6_sell 52 = .ok (.isub, 1) := by decide +kernel
theorem dX6_sell_53 : decode cX6_sell 53 = .ok (.iadd, 1) := by decide +kernel
theorem dX6_sell_54 : decode cX6_sell 54 = .ok (.putfield 65, 3) := by decide +kernel
theorem dX6_sell_57 : decode cX6_sell 57 = .ok (.aload_n 1, 1) := by decide +kernel
theorem dX6_sell_58 : decode cX6_sell 58 = .ok (.iconst 2, 1) := by decide +kernel
theorem dX6_sell_59 : decode cX6_sell 59 = .ok (.putfield 102, 3) := by decide +kernel
theorem dX6_sell_62 : decode cX6_sell 62 = .ok (.aload_n 1, 1) := by decide +kernel
theorem dX6_sell_63 : decode cX6_sell 63 = .ok (.aload_n 0, 1) := by decide +kernel
theorem dX6_sell_64 : decode cX6_sell 64 = .ok (.getfield 47, 3) := by decide +kernel
theorem dX6_sell_67 : decode cX6_sell 67 = .ok (.putfield 255, 3) := by decide +kernel
theorem dX6_sell_70 : decode cX6_sell 70 = .ok (.aload_n 1, 1) := by decide +kernel
theorem dX6_sell_71 : decode cX6_sell 71 = .ok (.aload_n 0, 1) := by decide +kernel
theorem dX6_sell_72 : decode cX6_sell 72 = .ok (.getfield 44, 3) := by decide +kernel
theorem dX6_sell_75 : decode cX6_sell 75 = .ok (.putfield 258, 3) := by decide +kernel
theorem dX6_sell_78 : decode cX6_sell 78 = .ok (.return_, 1) := by decide +kernel
theorem dX6_sendBack_0 : decode cX6_sendBack 0 = .ok (.aload_n 0, 1) := by decide +kernel
theorem dX6_sendBack_1 : decode cX6_sendBack 1 = .ok (.getfield 33, 3) := by decide +kernel
theorem dX6_sendBack_4 : decode cX6_sendBack 4 = .ok (.iload_n 1, 1) := by decide +kernel
theorem dX6_sendBack_5 : decode cX6_sendBack 5 = .ok (.aaload, 1) := by decide +kernel
theorem dX6_sendBack_6 : decode cX6_sendBack 6 = .ok (.astore_n 2, 1) := by decide +kernel
theorem dX6_sendBack_7 : decode cX6_sendBack 7 = .ok (.aload_n 2, 1) := by decide +kernel
theorem dX6_sendBack_8 : decode cX6_sendBack 8 = .ok (.dup, 1) := by decide +kernel
theorem dX6_sendBack_9 : decode cX6_sendBack 9 = .ok (.getfield 261, 3) := by decide +kernel
theorem dX6_sendBack_12 : decode cX6_sendBack 12 = .ok (.iconst 1, 1) := by decide +kernel
theorem dX6_sendBack_13 : decode cX6_sendBack 13 = .ok (.iadd, 1) := by decide +kernel
theorem dX6_sendBack_14 : decode cX6_sendBack 14 = .ok (.putfield 261, 3) := by decide +kernel
theorem dX6_sendBack_17 : decode cX6_sendBack 17 = .ok (.aload_n 2, 1) := by decide +kernel
theorem dX6_sendBack_18 : decode cX6_sendBack 18 = .ok (.getfield 261, 3) := by decide +kernel
theorem dX6_sendBack_21 : decode cX6_sendBack 21 = .ok (.iconst 3, 1) := by decide +kernel
theorem dX6_sendBack_22 : decode cX6_sendBack 22 = .ok (.if_icmp .ne 11, 3) := by decide +kernel
theorem dX6_sendBack_25 : decode cX6_sendBack 25 = .ok (.aload_n 2, 1) := by decide +kernel
theorem dX6_sendBack_26 : decode cX6_sendBack 26 = .ok (.iconst 3, 1) := by decide +kernel
theorem dX6_sendBack_27 : decode cX6_sendBack 27 = .ok (.putfield 102, 3) := by decide +kernel
theorem dX6_sendBack_30 : decode cX6_sendBack 30 = .ok (.goto 13, 3) := by decide +kernel
theorem dX6_sendBack_33 : decode cX6_sendBack 33 = .ok (.aload_n 2, 1) := by decide +kernel
theorem dX6_sendBack_34 : decode cX6_sendBack 34 = .ok (.iconst 0, 1) := by decide +kernel
theorem dX6_sendBack_35 : decode cX6_sendBack 35 = .ok (.putfield 102, 3) := by decide +kernel
theorem dX6_sendBack_38 : decode cX6_sendBack 38 = .ok (.aload_n 0, 1) := by decide +kernel
theorem dX6_sendBack_39 : decode cX6_sendBack 39 = .ok (.iload_n 1, 1) := by decide +kernel
theorem dX6_sendBack_40 : decode cX6_sendBack 40 = .ok (.invokevirtual 127, 3) := by decide +kernel
theorem dX6_sendBack_43 : decode cX6_sendBack 43 = .ok (.return_, 1) := by decide +kernel
theorem dX6_endBidding_0 : decode cX6_endBidding 0 = .ok (.aload_n 0, 1) := by decide +kernel
theorem dX6_endBidding_1 : decode cX6_endBidding 1 = .ok (.iconst (-1), 1) := by decide +kernel
theorem dX6_endBidding_2 : decode cX6_endBidding 2 = .ok (.putfield 41, 3) := by decide +kernel
theorem dX6_endBidding_5 : decode cX6_endBidding 5 = .ok (.aload_n 0, 1) := by decide +kernel
theorem dX6_endBidding_6 : decode cX6_endBidding 6 = .ok (.iconst (-1), 1) := by decide +kernel
theorem dX6_endBidding_7 : decode cX6_endBidding 7 = .ok (.putfield 44, 3) := by decide +kernel
theorem dX6_endBidding_10 : decode cX6_endBidding 10 = .ok (.aload_n 0, 1) := by decide +kernel
theorem dX6_endBidding_11 : decode cX6_endBidding 11 = .ok (.iconst (-1), 1) := by decide +kernel
theorem dX6_endBidding_12 : decode cX6_endBidding 12 = .ok (.putfield 47, 3) := by decide +kernel
theorem dX6_endBidding_15 : decode cX6_endBidding 15 = .ok (.aload_n 0, 1) := by decide +kernel
theorem dX6_endBidding_16 : decode cX6_endBidding 16 = .ok (.iconst (-1), 1) := by decide +kernel
theorem dX6_endBidding_17 : decode cX6_endBidding 17 = .ok (.putfield 50, 3) := by decide +kernel
theorem dX6_endBidding_20 : decode cX6_endBidding 20 = .ok (.return_, 1) := by decide +kernel
theorem dX6_enqueue_0 : decode cX6_enqueue 0 = .ok (.aload_n 0, 1) := by decide +kernel
theorem dX6_enqueue_1 : decode cX6_enqueue 1 = .ok (.getfield 89, 3) := by decide +kernel
theorem dX6_enqueue_4 : decode cX6_enqueue 4 = .ok (.bipush 20, 2) := by decide +kernel
theorem dX6_enqueue_6 : decode cX6_enqueue 6 = .ok (.if_icmp .ge 23, 3) := by decide +kernel
theorem dX6_enqueue_9 : decode cX6_enqueue 9 = .ok (.aload_n 0, 1) := by decide +kernel
theorem dX6_enqueue_10 : decode cX6_enqueue 10 = .ok (.getfield 37, 3) := by decide +kernel
theorem dX6_enqueue_13 : decode cX6_enqueue 13 = .ok (.aload_n 0, 1) := by decide +kernel
theorem dX6_enqueue_14 : decode cX6_enqueue 14 = .ok (.getfield 89, 3) := by decide +kernel
theorem dX6_enqueue_17 : decode cX6_enqueue 17 = .ok (.iload_n 1, 1) := by decide +kernel
theorem dX6_enqueue_18 : decode cX6_enqueue 18 = .ok (.iastore, 1) := by decide +kernel
theorem dX6_enqueue_19 : decode cX6_enqueue 19 = .ok (.aload_n 0, 1) := by decide +kernel
theorem dX6_enqueue_20 : decode cX6_enqueue 20 = .ok (.dup, 1) := by decide +kernel
theorem dX6_enqueue_21 : decode cX6_enqueue 21 = .ok (.getfield 89, 3) := by decide +kernel
theorem dX6_enqueue_24 : decode cX6_enqueue 24 = .ok (.iconst 1, 1) := by decide +kernel
theorem dX6_enqueue_25 : decode cX6_enqueue 25 = .ok (.iadd, 1) := by decide +kernel
theorem dX6_enqueue_26 : decode cX6_enqueue 26 = .ok (.putfield 89, 3) := by decide +kernel
theorem dX6_enqueue_29 : decode cX6_enqueue 29 = .ok (.return_, 1) := by decide +kernel
theorem dX6_dequeue_0 : decode cX6_dequeue 0 = .ok (.iconst 0, 1) := by decide +kernel
theorem dX6_dequeue_1 : decode cX6_dequeue 1 = .ok (.istore_n 2, 1) := by decide +kernel
theorem dX6_dequeue_2 : decode cX6_dequeue 2 = .ok (.iconst 0, 1) := by decide +kernel
theorem dX6_dequeue_3 : decode cX6_dequeue 3 = .ok (.istore_n 3, 1) := by decide +kernel
theorem dX6_dequeue_4 : decode cX6_dequeue 4 = .ok (.iload_n 3, 1) := by decide +kernel
theorem dX6_dequeue_5 : decode cX6_dequeue 5 = .ok (.aload_n 0, 1) := by decide +kernel
theorem dX6_dequeue_6 : decode cX6_dequeue 6 = .ok (.getfield 89, 3) := by decide +kernel
theorem dX6_dequeue_9 : decode cX6_dequeue 9 = .ok (.if_icmp .ge 34, 3) := by decide +kernel
theorem dX6_dequeue_12 : decode cX6_dequeue 12 = .ok (.aload_n 0, 1) := by decide +kernel
theorem dX6_dequeue_13 : decode cX6_dequeue 13 = .ok (.getfield 37, 3) := by decide +kernel
theorem dX6_dequeue_16 : decode cX6_dequeue 16 = .ok (.iload_n 3, 1) := by decide +kernel
theorem dX6_dequeue_17 : decode cX6_dequeue 17 = .ok (.iaload, 1) := by decide +kernel
theorem dX6_dequeue_18 : decode cX6_dequeue 18 = .ok (.iload_n 1, 1) := by decide +kernel
theorem dX6_dequeue_19 : decode cX6_dequeue 19 = .ok (.if_icmp .eq 18, 3) := by decide +kernel
theorem dX6_dequeue_22 : decode cX6_dequeue 22 = .ok (.aload_n 0, 1) := by decide +kernel
theorem dX6_dequeue_23 : decode cX6_dequeue 23 = .ok (.getfield 37, 3) := by decide +kernel
theorem dX6_dequeue_26 : decode cX6_dequeue 26 = .ok (.iload_n 2, 1) := by decide +kernel
theorem dX6_dequeue_27 : decode cX6_dequeue 27 = .ok (.aload_n 0, 1) := by decide +kernel
theorem dX6_dequeue_28 : decode cX6_dequeue 28 = .ok (.getfield 37, 3) := by decide +kernel
theorem dX6_dequeue_31 : decode cX6_dequeue 31 = .ok (.iload_n 3, 1) := by decide +kernel
theorem dX6_dequeue_32 : decode cX6_dequeue 32 = .ok (.iaload, 1) := by decide +kernel
theorem dX6_dequeue_33 : decode cX6_dequeue 33 = .ok (.iastore, 1) := by decide +kernel
theorem dX6_dequeue_34 : decode cX6_dequeue 34 = .ok (.iinc 2 1, 3) := by decide +kernel
theorem dX6_dequeue_37 : decode cX6_dequeue 37 = .ok (.iinc 3 1, 3) := by decide +kernel
theorem dX6_dequeue_40 : decode cX6_dequeue 40 = .ok (.goto (-36), 3) := by decide +kernel
theorem dX6_dequeue_43 : decode cX6_dequeue 43 = .ok (.aload_n 0, 1) := by decide +kernel
theorem dX6_dequeue_44 : decode cX6_dequeue 44 = .ok (.iload_n 2, 1) := by decide +kernel
theorem dX6_dequeue_45 : decode cX6_dequeue 45 = .ok (.putfield 89, 3) := by decide +kernel
theorem dX6_dequeue_48 : decode cX6_dequeue 48 = .ok (.return_, 1) := by decide +kernel
theorem dX7_init_0 : decode cX7_init 0 = .ok (.aload_n 0, 1) := by decide +kernel
theorem dX7_init_1 : decode cX7_init 1 = .ok (.invokespecial 3, 3) := by decide +kernel
theorem dX7_init_4 : decode cX7_init 4 = .ok (.aload_n 0, 1) := by decide +kernel
theorem dX7_init_5 : decode cX7_init 5 = .ok (.new 9, 3) := by decide +kernel
theorem dX7_init_8 : decode cX7_init 8 = .ok (.dup, 1) := by decide +kernel
theorem dX7_init_9 : decode cX7_init 9 = .ok (.invokespecial 11, 3) := by decide +kernel
theorem dX7_init_12 : decode cX7_init 12 = .ok (.putfield 12, 3) := by decide +kernel
theorem dX7_init_15 : decode cX7_init 15 = .ok (.aload_n 0, 1) := by decide +kernel
theorem dX7_init_16 : decode cX7_init 16 = .ok (.bipush 20, 2) := by decide +kernel
theorem dX7_init_18 : decode cX7_init 18 = .ok (.anewarray 18, 3) := by decide +kernel
theorem dX7_init_21 : decode cX7_init 21 = .ok (.putfield 20, 3) := by decide +kernel
theorem dX7_init_24 : decode cX7_init 24 = .ok (.aload_n 0, 1) := by decide +kernel
theorem dX7_init_25 : decode cX7_init 25 = .ok (.new 18, 3) := by decide +kernel
theorem dX7_init_28 : decode cX7_init 28 = .ok (.dup, 1) := by decide +kernel
theorem dX7_init_29 : decode cX7_init 29 = .ok (.invokespecial 24, 3) := by decide +kernel
theorem dX7_init_32 : decode cX7_init 32 = .ok (.putfield 25, 3) := by decide +kernel
theorem dX7_init_35 : decode cX7_init 35 = .ok (.aload_n 0, 1) := by decide +kernel
theorem dX7_init_36 : decode cX7_init 36 = .ok (.iconst (-1), 1) := by decide +kernel
theorem dX7_init_37 : decode cX7_init 37 = .ok (.putfield 29, 3) := by decide +kernel
theorem dX7_init_40 : decode cX7_init 40 = .ok (.iconst 0, 1) := by decide +kernel
theorem dX7_init_41 : decode cX7_init 41 = .ok (.istore_n 1, 1) := by decide +kernel
theorem dX7_init_42 : decode cX7_init 42 = .ok (.iload_n 1, 1) := by decide +kernel
theorem dX7_init_43 : decode cX7_init 43 = .ok (.bipush 20, 2) := by decide +kernel
theorem dX7_init_45 : decode cX7_init 45 = .ok (.if_icmp .ge 22, 3) := by decide +kernel
theorem dX7_init_48 : decode cX7_init 48 = .ok (.aload_n 0, 1) := by decide +kernel
theorem dX7_init_49 : decode cX7_init 49 = .ok (.getfield 20, 3) := by decide +kernel
theorem dX7_init_52 : decode cX7_init 52 = .ok (.iload_n 1, 1) := by decide +kernel
theorem dX7_init_53 : decode cX7_init 53 = .ok (.new 18, 3) := by decide +kernel
theorem dX7_init_56 : decode cX7_init 56 = .ok (.dup, 1) := by decide +kernel
theorem dX7_init_57 : decode cX7_init 57 = .ok (.invokespecial 24, 3) := by decide +kernel
theorem dX7_init_60 : decode cX7_init 60 = .ok (.aastore, 1) := by decide +kernel
theorem dX7_init_61 : decode cX7_init 61 = .ok (.iinc 1 1, 3) := by decide +kernel
theorem dX7_init_64 : decode cX7_init 64 = .ok (.goto (-22), 3) := by decide +kernel
theorem dX7_init_67 : decode cX7_init 67 = .ok (.return_, 1) := by decide +kernel
theorem dX7_readSetup_0 : decode cX7_readSetup 0 = .ok (.aload_n 0, 1) := by decide +kernel
theorem dX7_readSetup_1 : decode cX7_readSetup 1 = .ok (.invokevirtual 33, 3) := by decide +kernel
theorem dX7_readSetup_4 : decode cX7_readSetup 4 = .ok (.aload_n 1, 1) := by decide +kernel
theorem dX7_readSetup_5 : decode cX7_readSetup 5 = .ok (.invokevirtual 36, 3) := by decide +kernel
theorem dX7_readSetup_8 : decode cX7_readSetup 8 = .ok (.aload_n 0, 1) := by decide +kernel
theorem dX7_readSetup_9 : decode cX7_readSetup 9 = .ok (.aload_n 1, 1) := by decide +kernel
theorem dX7_readSetup_10 : decode cX7_readSetup 10 = .ok (.invokevirtual 41, 3) := by decide +kernel
theorem dX7_readSetup_13 : decode cX7_readSetup 13 = .ok (.ifCond .eq 41, 3) := by decide +kernel
theorem dX7_readSetup_16 : decode cX7_readSetup 16 = .ok (.aload_n 0, 1) := by decide +kernel
theorem dX7_readSetup_17 : decode cX7_readSetup 17 = .ok (.aload_n 1, 1) := by decide +kernel
theorem dX7_readSetup_18 : decode cX7_readSetup 18 = .ok (.invokevirtual 45, 3) := by decide +kernel
theorem dX7_readSetup_21 : decode cX7_readSetup 21 = .ok (.ifCond .eq 33, 3) := by decide +kernel
theorem dX7_readSetup_24 : decode cX7_readSetup 24 = .ok (.aload_n 0, 1) := by decide +kernel
theorem dX7_readSetup_25 : decode cX7_readSetup 25 = .ok (.aload_n 1, 1) := by decide +kernel
theorem dX7_readSetup_26 : decode cX7_readSetup 26 = .ok (.invokevirtual 48, 3) := by decide +kernel
theorem dX7_readSetup_29 : decode cX7_readSetup 29 = .ok (.ifCond .eq 25, 3) := by decide +kernel
theorem dX7_readSetup_32 : decode cX7_readSetup 32 = .ok (.aload_n 0, 1) := by decide +kernel
theorem dX7_readSetup_33 : decode cX7_readSetup 33 = .ok (.getfield 12, 3) := by decide +kernel
theorem dX7_readSetup_36 : decode cX7_readSetup 36 = .ok (.getfield 51, 3) := by decide +kernel
theorem dX7_readSetup_39 : decode cX7_readSetup 39 = .ok (.ifCond .eq 11, 3) := by decide +kernel
theorem dX7_readSetup_42 : decode cX7_readSetup 42 = .ok (.aload_n 0, 1) := by decide +kernel
theorem dX7_readSetup_43 : decode cX7_readSetup 43 = .ok (.iconst 1, 1) := by decide +kernel
theorem dX7_readSetup_44 : decode cX7_readSetup 44 = .ok (.invokevirtual 54, 3) := by decide +kernel
theorem dX7_readSetup_47 : decode cX7_readSetup 47 = .ok (.ifCond .eq 7, 3) := by decide +kernel
theorem dX7_readSetup_50 : decode cX7_readSetup 50 = .ok (.iconst 1, 1) := by decide +kernel
theorem dX7_readSetup_51 : decode cX7_readSetup 51 = .ok (.goto 4, 3) := by decide +kernel
theorem dX7_readSetup_54 : decode cX7_readSetup 54 = .ok (.iconst 0, 1) := by decide +kernel
theorem dX7_readSetup_55 : decode cX7_readSetup 55 = .ok (.ireturn, 1) := by decide +kernel
theorem dX7_readScript_0 : decode cX7_readScript 0 = .ok (.aload_n 0, 1) := by decide +kernel
theorem dX7_readScript_1 : decode cX7_readScript 1 = .ok (.invokevirtual 33, 3) := by decide +kernel
theorem dX7_readScript_4 : decode cX7_readScript 4 = .ok (.aload_n 0, 1) := by decide +kernel
theorem dX7_readScript_5 : decode cX7_readScript 5 = .ok (.iconst 0, 1) := by decide +kernel
theorem dX7_readScript_6 : decode cX7_readScript 6 = .ok (.putfield 58, 3) := by decide +kernel
theorem dX7_readScript_9 : decode cX7_readScript 9 = .ok (.iconst 0, 1) := by decide +kernel
theorem dX7_readScript_10 : decode cX7_readScript 10 = .ok (.istore_n 2, 1) := by decide +kernel
theorem dX7_readScript_11 : decode cX7_readScript 11 = .ok (.iload_n 2, 1) := by decide +kernel
theorem dX7_readScript_12 : decode cX7_readScript 12 = .ok (.bipush 20, 2) := by decide +kernel
theorem dX7_readScript_14 : decode cX7_readScript 14 = .ok (.if_icmp .gt 93, 3) := by decide +kernel
theorem dX7_readScript_17 : decode cX7_readScript 17 = .ok (.aload_n 0, 1) := by decide +kernel
theorem dX7_readScript_18 : decode cX7_readScript 18 = .ok (.getfield 12, 3) := by decide +kernel
theorem dX7_readScript_21 : decode cX7_readScript 21 = .ok (.getfield 51, 3) := by decide +kernel
theorem dX7_readScript_24 : decode cX7_readScript 24 = .ok (.ifCond .eq 83, 3) := by decide +kernel
theorem dX7_readScript_27 : decode cX7_readScript 27 = .ok (.aload_n 0, 1) := by decide +kernel
theorem dX7_readScript_28 : decode cX7_readScript 28 = .ok (.invokevirtual 61, 3) := by decide +kernel
theorem dX7_readScript_31 : decode cX7_readScript 31 = .ok (.astore_n 3, 1) := by decide +kernel
theorem dX7_readScript_32 : decode cX7_readScript 32 = .ok (.aload_n 3, 1) := by decide +kernel
theorem dX7_readScript_33 : decode cX7_readScript 33 = .ok (.ifnonnull 9, 3) := by decide +kernel
theorem dX7_readScript_36 : decode cX7_readScript 36 = .ok (.aload_n 0, 1) := by decide +kernel
theorem dX7_readScript_37 : decode cX7_readScript 37 = .ok (.iconst 1, 1) := by decide +kernel
theorem dX7_readScript_38 : decode cX7_readScript 38 = .ok (.invokevirtual 54, 3) := by decide +kernel
theorem dX7_readScript_41 : decode cX7_readScript 41 = .ok (.ireturn, 1) := by decide +kernel
theorem dX7_readScript_42 : decode cX7_readScript 42 = .ok (.iload_n 2, 1) := by decide +kernel
theorem dX7_readScript_43 : decode cX7_readScript 43 = .ok (.bipush 20, 2) := by decide +kernel
theorem dX7_readScript_45 : decode cX7_readScript 45 = .ok (.if_icmp .ne 9, 3) := by decide +kernel
theorem dX7_readScript_48 : decode cX7_readScript 48 = .ok (.aload_n 0, 1) := by decide +kernel
theorem dX7_readScript_49 : decode cX7_readScript 49 = .ok (.iconst 3, 1) := by decide +kernel
theorem dX7_readScript_50 : decode cX7_readScript 50 = .ok (.invokevirtual 54, 3) := by decide +kernel
theorem dX7_readScript_53 : decode cX7_readScript 53 = .ok (.ireturn, 1) := by decide +kernel
theorem dX7_readScript_54 : decode cX7_readScript 54 = .ok (.aload_n 0, 1) := by decide +kernel
theorem dX7_readScript_55 : decode cX7_readScript 55 = .ok (.getfield 12, 3) := by decide +kernel
theorem dX7_readScript_58 : decode cX7_readScript 58 = .ok (.invokevirtual 65, 3) := by decide +kernel
theorem dX7_readScript_61 : decode cX7_readScript 61 = .ok (.aload_n 0, 1) := by decide +kernel
theorem dX7_readScript_62 : decode cX7_readScript 62 = .ok (.getfield 20, 3) := by decide +kernel
theorem dX7_readScript_65 : decode cX7_readScript 65 = .ok (.iload_n 2, 1) := by decide +kernel
theorem dX7_readScript_66 : decode cX7_readScript 66 = .ok (.aaload, 1) := by decide +kernel
theorem dX7_readScript_67 : decode cX7_readScript 67 = .ok (.aload_n 3, 1) := by decide +kernel
theorem dX7_readScript_68 : decode cX7_readScript 68 = .ok (.putfield 68, 3) := by decide +kernel
theorem dX7_readScript_71 : decode cX7_readScript 71 = .ok (.aload_n 0, 1) := by decide +kernel
theorem dX7_readScript_72 : decode cX7_readScript 72 = .ok (.aload_n 0, 1) := by decide +kernel
theorem dX7_readScript_73 : decode cX7_readScript 73 = .ok (.getfield 20, 3) := by decide +kernel
theorem dX7_readScript_76 : decode cX7_readScript 76 = .ok (.iload_n 2, 1) := by decide +kernel
theorem dX7_readScript_77 : decode cX7_readScript 77 = .ok (.aaload, 1) := by decide +kernel
theorem dX7_readScript_78 : decode cX7_readScript 78 = .ok (.iload_n 1, 1) := by decide +kernel
theorem dX7_readScript_79 : decode cX7_readScript 79 = .ok (.invokevirtual 72, 3) := by decide +kernel
theorem dX7_readScript_82 : decode cX7_readScript 82 = .ok (.ifCond .eq 10, 3) := by decide +kernel
theorem dX7_readScript_85 : decode cX7_readScript 85 = .ok (.aload_n 0, 1) := by decide +kernel
theorem dX7_readScript_86 : decode cX7_readScript 86 = .ok (.invokevirtual 76, 3) := by decide +kernel
theorem dX7_readScript_89 : decode cX7_readScript 89 = .ok (.ifCond .ne 5, 3) := by decide +kernel
theorem dX7_readScript_92 : decode cX7_readScript 92 = .ok (.iconst 0, 1) := by decide +kernel
theorem dX7_readScript_93 : decode cX7_readScript 93 = .ok (.ireturn, 1) := by decide +kernel
theorem dX7_readScript_94 : decode cX7_readScript 94 = .ok (.aload_n 0, 1) := by decide +kernel
theorem dX7_readScript_95 : decode cX7_readScript 95 = .ok (.iload_n 2, 1) := by decide +kernel
theorem dX7_readScript_96 : decode cX7_readScript 96 = .ok (.iconst 1, 1) := by decide +kernel
theorem dX7_readScript_97 : decode cX7_readScript 97 = .ok (.iadd, 1) := by decide +kernel
theorem dX7_readScript_98 : decode cX7_readScript 98 = .ok (.putfield 58, 3) := by decide +kernel
theorem dX7_readScript_101 : decode cX7_readScript 101 = .ok (.iinc 2 1, 3) := by decide +kernel
theorem dX7_readScript_104 : decode cX7_readScript 104 = .ok (.goto (-93), 3) := by decide +kernel
theorem dX7_readScript_107 : decode cX7_readScript 107 = .ok (.iconst 1, 1) := by decide +kernel
theorem dX7_readScript_108 : decode cX7_readScript 108 = .ok (.ireturn, 1) := by decide +kernel
theorem dX7_begin_0 : decode cX7_begin 0 = .ok (.aload_n 0, 1) := by decide +kernel
theorem dX7_begin_1 : decode cX7_begin 1 = .ok (.iconst 0, 1) := by decide +kernel
theorem dX7_begin_2 : decode cX7_begin 2 = .ok (.putfield 80, 3) := by decide +kernel
theorem dX7_begin_5 : decode cX7_begin 5 = .ok (.aload_n 0, 1) := by decide +kernel
theorem dX7_begin_6 : decode cX7_begin 6 = .ok (.iconst (-1), 1) := by decide +kernel
theorem dX7_begin_7 : decode cX7_begin 7 = .ok (.putfield 29, 3) := by decide +kernel
theorem dX7_begin_10 : decode cX7_begin 10 = .ok (.aload_n 0, 1) := by decide +kernel
theorem dX7_begin_11 : decode cX7_begin 11 = .ok (.getfield 12, 3) := by decide +kernel
theorem dX7_begin_14 : decode cX7_begin 14 = .ok (.invokevirtual 83, 3) := by decide +kernel
theorem dX7_begin_17 : decode cX7_begin 17 = .ok (.return_, 1) := by decide +kernel
theorem dX7_readMarket_0 : decode cX7_readMarket 0 = .ok (.aload_n 0, 1) := by decide +kernel
theorem dX7_readMarket_1 : decode cX7_readMarket 1 = .ok (.ldc 86, 2) := by decide +kernel
theorem dX7_readMarket_3 : decode cX7_readMarket 3 = .ok (.invokevirtual 88, 3) := by decide +kernel
theorem dX7_readMarket_6 : decode cX7_readMarket 6 = .ok (.ifCond .eq 13, 3) := by decide +kernel
theorem dX7_readMarket_9 : decode cX7_readMarket 9 = .ok (.aload_n 0, 1) := by decide +kernel
theorem dX7_readMarket_10 : decode cX7_readMarket 10 = .ok (.iconst 5, 1) := by decide +kernel
theorem dX7_readMarket_11 : decode cX7_readMarket 11 = .ok (.bipush 60, 2) := by decide +kernel
theorem dX7_readMarket_13 : decode cX7_readMarket 13 = .ok (.invokevirtual 92, 3) := by decide +kernel
theorem dX7_readMarket_16 : decode cX7_readMarket 16 = .ok (.ifCond .ne 5, 3) := by decide +kernel
theorem dX7_readMarket_19 : decode cX7_readMarket 19 = .ok (.iconst 0, 1) := by decide +kernel
theorem dX7_readMarket_20 : decode cX7_readMarket 20 = .ok (.ireturn, 1) := by decide +kernel
theorem dX7_readMarket_21 : decode cX7_readMarket 21 = .ok (.aload_n 1, 1) := by decide +kernel
theorem dX7_readMarket_22 : decode cX7_readMarket 22 = .ok (.getfield 96, 3) := by decide +kernel
theorem dX7_readMarket_25 : decode cX7_readMarket 25 = .ok (.aload_n 0, 1) := by decide +kernel
theorem dX7_readMarket_26 : decode cX7_readMarket 26 = .ok (.getfield 100, 3) := by decide +kernel
theorem dX7_readMarket_29 : decode cX7_readMarket 29 = .ok (.putfield 103, 3) := by decide +kernel
theorem dX7_readMarket_32 : decode cX7_readMarket 32 = .ok (.aload_n 0, 1) := by decide +kernel
theorem dX7_readMarket_33 : decode cX7_readMarket 33 = .ok (.iconst 1, 1) := by decide +kernel
theorem dX7_readMarket_34 : decode cX7_readMarket 34 = .ok (.aload_n 1, 1) := by decide +kernel
theorem dX7_readMarket_35 : decode cX7_readMarket 35 = .ok (.getfield 96, 3) := by decide +kernel
theorem dX7_readMarket_38 : decode cX7_readMarket 38 = .ok (.getfield 103, 3) := by decide +kernel
theorem dX7_readMarket_41 : decode cX7_readMarket 41 = .ok (.invokevirtual 92, 3) := by decide +kernel
theorem dX7_readMarket_44 : decode cX7_readMarket 44 = .ok (.ifCond .ne 5, 3) := by decide +kernel
theorem dX7_readMarket_47 : decode cX7_readMarket 47 = .ok (.iconst 0, 1) := by decide +kernel
theorem dX7_readMarket_48 : decode cX7_readMarket 48 = .ok (.ireturn, 1) := by decide +kernel
theorem dX7_readMarket_49 : decode cX7_readMarket 49 = .ok (.aload_n 1, 1) := by decide +kernel
theorem dX7_readMarket_50 : decode cX7_readMarket 50 = .ok (.getfield 96, 3) := by decide +kernel
theorem dX7_readMarket_53 : decode cX7_readMarket 53 = .ok (.aload_n 0, 1) := by decide +kernel
theorem dX7_readMarket_54 : decode cX7_readMarket 54 = .ok (.getfield 100, 3) := by decide +kernel
theorem dX7_readMarket_57 : decode cX7_readMarket 57 = .ok (.putfield 108, 3) := by decide +kernel
theorem dX7_readMarket_60 : decode cX7_readMarket 60 = .ok (.aload_n 0, 1) := by decide +kernel
theorem dX7_readMarket_61 : decode cX7_readMarket 61 = .ok (.iconst 1, 1) := by decide +kernel
theorem dX7_readMarket_62 : decode cX7_readMarket 62 = .ok (.bipush 9, 2) := by decide +kernel
theorem dX7_readMarket_64 : decode cX7_readMarket 64 = .ok (.invokevirtual 92, 3) := by decide +kernel
theorem dX7_readMarket_67 : decode cX7_readMarket 67 = .ok (.ifCond .ne 5, 3) := by decide +kernel
theorem dX7_readMarket_70 : decode cX7_readMarket 70 = .ok (.iconst 0, 1) := by decide +kernel
theorem dX7_readMarket_71 : decode cX7_readMarket 71 = .ok (.ireturn, 1) := by decide +kernel
theorem dX7_readMarket_72 : decode cX7_readMarket 72 = .ok (.aload_n 1, 1) := by decide +kernel
theorem dX7_readMarket_73 : decode cX7_readMarket 73 = .ok (.aload_n 0, 1) := by decide +kernel
theorem dX7_readMarket_74 : decode cX7_readMarket 74 = .ok (.getfield 100, 3) := by decide +kernel
theorem dX7_readMarket_77 : decode cX7_readMarket 77 = .ok (.putfield 111, 3) := by decide +kernel
theorem dX7_readMarket_80 : decode cX7_readMarket 80 = .ok (.aload_n 0, 1) := by decide +kernel
theorem dX7_readMarket_81 : decode cX7_readMarket 81 = .ok (.iconst 1, 1) := by decide +kernel
theorem dX7_readMarket_82 : decode cX7_readMarket 82 = .ok (.bipush 50, 2) := by decide +kernel
theorem dX7_readMarket_84 : decode cX7_readMarket 84 = .ok (.invokevirtual 92, 3) := by decide +kernel
theorem dX7_readMarket_87 : decode cX7_readMarket 87 = .ok (.ifCond .ne 5, 3) := by decide +kernel
theorem dX7_readMarket_90 : decode cX7_readMarket 90 = .ok (.iconst 0, 1) := by decide +kernel
theorem dX7_readMarket_91 : decode cX7_readMarket 91 = .ok (.ireturn, 1) := by decide +kernel
theorem dX7_readMarket_92 : decode cX7_readMarket 92 = .ok (.aload_n 1, 1) := by decide +kernel
theorem dX7_readMarket_93 : decode cX7_readMarket 93 = .ok (.aload_n 0, 1) := by decide +kernel
theorem dX7_readMarket_94 : decode cX7_readMarket 94 = .ok (.getfield 100, 3) := by decide +kernel
theorem dX7_readMarket_97 : decode cX7_readMarket 97 = .ok (.putfield 114, 3) := by decide +kernel
theorem dX7_readMarket_100 : decode cX7_readMarket 100 = .ok (.aload_n 0, 1) := by decide +kernel
theorem dX7_readMarket_101 : decode cX7_readMarket 101 = .ok (.iconst 0, 1) := by decide +kernel
theorem dX7_readMarket_102 : decode cX7_readMarket 102 = .ok (.bipush 50, 2) := by decide +kernel
theorem dX7_readMarket_104 : decode cX7_readMarket 104 = .ok (.invokevirtual 92, 3) := by decide +kernel
theorem dX7_readMarket_107 : decode cX7_readMarket 107 = .ok (.ifCond .ne 5, 3) := by decide +kernel
theorem dX7_readMarket_110 : decode cX7_readMarket 110 = .ok (.iconst 0, 1) := by decide +kernel
theorem dX7_readMarket_111 : decode cX7_readMarket 111 = .ok (.ireturn, 1) := by decide +kernel
theorem dX7_readMarket_112 : decode cX7_readMarket 112 = .ok (.aload_n 1, 1) := by decide +kernel
theorem dX7_readMarket_113 : decode cX7_readMarket 113 = .ok (.aload_n 0, 1) := by decide +kernel
theorem dX7_readMarket_114 : decode cX7_readMarket 114 = .ok (.getfield 100, 3) := by decide +kernel
theorem dX7_readMarket_117 : decode cX7_readMarket 117 = .ok (.putfield 117, 3) := by decide +kernel
theorem dX7_readMarket_120 : decode cX7_readMarket 120 = .ok (.aload_n 0, 1) := by decide +kernel
theorem dX7_readMarket_121 : decode cX7_readMarket 121 = .ok (.invokevirtual 76, 3) := by decide +kernel
theorem dX7_readMarket_124 : decode cX7_readMarket 124 = .ok (.ireturn, 1) := by decide +kernel
theorem dX7_readBuyers_0 : decode cX7_readBuyers 0 = .ok (.aload_n 0, 1) := by decide +kernel
theorem dX7_readBuyers_1 : decode cX7_readBuyers 1 = .ok (.aload_n 1, 1) := by decide +kernel
theorem dX7_readBuyers_2 : decode cX7_readBuyers 2 = .ok (.invokevirtual 120, 3) := by decide +kernel
theorem dX7_readBuyers_5 : decode cX7_readBuyers 5 = .ok (.ifCond .ne 5, 3) := by decide +kernel
theorem dX7_readBuyers_8 : decode cX7_readBuyers 8 = .ok (.iconst 0, 1) := by decide +kernel
theorem dX7_readBuyers_9 : decode cX7_readBuyers 9 = .ok (.ireturn, 1) := by decide +kernel
theorem dX7_readBuyers_10 : decode cX7_readBuyers 10 = .ok (.iconst 1, 1) := by decide +kernel
theorem dX7_readBuyers_11 : decode cX7_readBuyers 11 = .ok (.istore_n 2, 1) := by decide +kernel
theorem dX7_readBuyers_12 : decode cX7_readBuyers 12 = .ok (.iload_n 2, 1) := by decide +kernel
theorem dX7_readBuyers_13 : decode cX7_readBuyers 13 = .ok (.bipush 6, 2) := by decide +kernel
theorem dX7_readBuyers_15 : decode cX7_readBuyers 15 = .ok (.if_icmp .gt 43, 3) := by decide +kernel
theorem dX7_readBuyers_18 : decode cX7_readBuyers 18 = .ok (.aload_n 0, 1) := by decide +kernel
theorem dX7_readBuyers_19 : decode cX7_readBuyers 19 = .ok (.getfield 12, 3) := by decide +kernel
theorem dX7_readBuyers_22 : decode cX7_readBuyers 22 = .ok (.ldc 123, 2) := by decide +kernel
theorem dX7_readBuyers_24 : decode cX7_readBuyers 24 = .ok (.invokevirtual 125, 3) := by decide +kernel
theorem dX7_readBuyers_27 : decode cX7_readBuyers 27 = .ok (.ifCond .eq 31, 3) := by decide +kernel
theorem dX7_readBuyers_30 : decode cX7_readBuyers 30 = .ok (.iload_n 2, 1) := by decide +kernel
theorem dX7_readBuyers_31 : decode cX7_readBuyers 31 = .ok (.bipush 6, 2) := by decide +kernel
theorem dX7_readBuyers_33 : decode cX7_readBuyers 33 = .ok (.if_icmp .ne 9, 3) := by decide +kernel
theorem dX7_readBuyers_36 : decode cX7_readBuyers 36 = .ok (.aload_n 0, 1) := by decide +kernel
theorem dX7_readBuyers_37 : decode cX7_readBuyers 37 = .ok (.iconst 3, 1) := by decide +kernel
theorem dX7_readBuyers_38 : decode cX7_readBuyers 38 = .ok (.invokevirtual 54, 3) := by decide +kernel
theorem dX7_readBuyers_41 : decode cX7_readBuyers 41 = .ok (.ireturn, 1) := by decide +kernel
theorem dX7_readBuyers_42 : decode cX7_readBuyers 42 = .ok (.aload_n 0, 1) := by decide +kernel
theorem dX7_readBuyers_43 : decode cX7_readBuyers 43 = .ok (.aload_n 1, 1) := by decide +kernel
theorem dX7_readBuyers_44 : decode cX7_readBuyers 44 = .ok (.invokevirtual 120, 3) := by decide +kernel
theorem dX7_readBuyers_47 : decode cX7_readBuyers 47 = .ok (.ifCond .ne 5, 3) := by decide +kernel
theorem dX7_readBuyers_50 : decode cX7_readBuyers 50 = .ok (.iconst 0, 1) := by decide +kernel
theorem dX7_readBuyers_51 : decode cX7_readBuyers 51 = .ok (.ireturn, 1) := by decide +kernel
theorem dX7_readBuyers_52 : decode cX7_readBuyers 52 = .ok (.iinc 2 1, 3) := by decide +kernel
theorem dX7_readBuyers_55 : decode cX7_readBuyers 55 = .ok (.goto (-43), 3) := by decide +kernel
theorem dX7_readBuyers_58 : decode cX7_readBuyers 58 = .ok (.iconst 1, 1) := by decide +kernel
theorem dX7_readBuyers_59 : decode cX7_readBuyers 59 = .ok (.ireturn, 1) := by decide +kernel
theorem dX7_readBuyer_0 : decode cX7_readBuyer 0 = .ok (.aload_n 0, 1) := by decide +kernel
theorem dX7_readBuyer_1 : decode cX7_readBuyer 1 = .ok (.ldc 123, 2) := by decide +kernel
theorem dX7_readBuyer_3 : decode cX7_readBuyer 3 = .ok (.invokevirtual 88, 3) := by decide +kernel
theorem dX7_readBuyer_6 : decode cX7_readBuyer 6 = .ok (.ifCond .eq 14, 3) := by decide +kernel
theorem dX7_readBuyer_9 : decode cX7_readBuyer 9 = .ok (.aload_n 0, 1) := by decide +kernel
theorem dX7_readBuyer_10 : decode cX7_readBuyer 10 = .ok (.iconst 0, 1) := by decide +kernel
theorem dX7_readBuyer_11 : decode cX7_readBuyer 11 = .ok (.sipush 9999, 3) := by decide +kernel
theorem dX7_readBuyer_14 : decode cX7_readBuyer 14 = .ok (.invokevirtual 92, 3) := by decide +kernel
theorem dX7_readBuyer_17 : decode cX7_readBuyer 17 = .ok (.ifCond .ne 5, 3) := by decide +kernel
theorem dX7_readBuyer_20 : decode cX7_readBuyer 20 = .ok (.iconst 0, 1) := by decide +kernel
theorem dX7_readBuyer_21 : decode cX7_readBuyer 21 = .ok (.ireturn, 1) := by decide +kernel
theorem dX7_readBuyer_22 : decode cX7_readBuyer 22 = .ok (.aload_n 0, 1) := by decide +kernel
theorem dX7_readBuyer_23 : decode cX7_readBuyer 23 = .ok (.getfield 100, 3) := by decide +kernel
theorem dX7_readBuyer_26 : decode cX7_readBuyer 26 = .ok (.istore_n 2, 1) := by decide +kernel
theorem dX7_readBuyer_27 : decode cX7_readBuyer 27 = .ok (.aload_n 0, 1) := by decide +kernel
theorem dX7_readBuyer_28 : decode cX7_readBuyer 28 = .ok (.iconst 0, 1) := by decide +kernel
theorem dX7_readBuyer_29 : decode cX7_readBuyer 29 = .ok (.iconst 4, 1) := by decide +kernel
theorem dX7_readBuyer_30 : decode cX7_readBuyer 30 = .ok (.invokevirtual 92, 3) := by decide +kernel
theorem dX7_readBuyer_33 : decode cX7_readBuyer 33 = .ok (.ifCond .ne 5, 3) := by decide +kernel
theorem dX7_readBuyer_36 : decode cX7_readBuyer 36 = .ok (.iconst 0, 1) := by decide +kernel
theorem dX7_readBuyer_37 : decode cX7_readBuyer 37 = .ok (.ireturn, 1) := by decide +kernel
theorem dX7_readBuyer_38 : decode cX7_readBuyer 38 = .ok (.aload_n 0, 1) := by decide +kernel
theorem dX7_readBuyer_39 : decode cX7_readBuyer 39 = .ok (.getfield 100, 3) := by decide +kernel
theorem dX7_readBuyer_42 : decode cX7_readBuyer 42 = .ok (.istore_n 3, 1) := by decide +kernel
theorem dX7_readBuyer_43 : decode cX7_readBuyer 43 = .ok (.aload_n 0, 1) := by decide +kernel
theorem dX7_readBuyer_44 : decode cX7_readBuyer 44 = .ok (.iconst 1, 1) := by decide +kernel
theorem dX7_readBuyer_45 : decode cX7_readBuyer 45 = .ok (.sipush 999, 3) := by decide +kernel
theorem dX7_readBuyer_48 : decode cX7_readBuyer 48 = .ok (.invokevirtual 92, 3) := by decide +kernel
theorem dX7_readBuyer_51 : decode cX7_readBuyer 51 = .ok (.ifCond .ne 5, 3) := by decide +kernel
theorem dX7_readBuyer_54 : decode cX7_readBuyer 54 = .ok (.iconst 0, 1) := by decide +kernel
theorem dX7_readBuyer_55 : decode cX7_readBuyer 55 = .ok (.ireturn, 1) := by decide +kernel
theorem dX7_readBuyer_56 : decode cX7_readBuyer 56 = .ok (.aload_n 1, 1) := by decide +kernel
theorem dX7_readBuyer_57 : decode cX7_readBuyer 57 = .ok (.iload_n 2, 1) := by decide +kernel
theorem dX7_readBuyer_58 : decode cX7_readBuyer 58 = .ok (.iload_n 3, 1) := by decide +kernel
theorem dX7_readBuyer_59 : decode cX7_readBuyer 59 = .ok (.aload_n 0, 1) := by decide +kernel
theorem dX7_readBuyer_60 : decode cX7_readBuyer 60 = .ok (.getfield 100, 3) := by decide +kernel
theorem dX7_readBuyer_63 : decode cX7_readBuyer 63 = .ok (.invokevirtual 128, 3) := by decide +kernel
theorem dX7_readBuyer_66 : decode cX7_readBuyer 66 = .ok (.aload_n 0, 1) := by decide +kernel
theorem dX7_readBuyer_67 : decode cX7_readBuyer 67 = .ok (.invokevirtual 76, 3) := by decide +kernel
theorem dX7_readBuyer_70 : decode cX7_readBuyer 70 = .ok (.ireturn, 1) := by decide +kernel
theorem dX7_readBarrels_0 : decode cX7_readBarrels 0 = .ok (.iconst 0, 1) := by decide +kernel
theorem dX7_readBarrels_1 : decode cX7_readBarrels 1 = .ok (.istore_n 2, 1) := by decide +kernel
theorem dX7_readBarrels_2 : decode cX7_readBarrels 2 = .ok (.iload_n 2, 1) := by decide +kernel
theorem dX7_readBarrels_3 : decode cX7_readBarrels 3 = .ok (.bipush 20, 2) := by decide +kernel
theorem dX7_readBarrels_5 : decode cX7_readBarrels 5 = .ok (.if_icmp .gt 87, 3) := by decide +kernel
theorem dX7_readBarrels_8 : decode cX7_readBarrels 8 = .ok (.aload_n 0, 1) := by decide +kernel
theorem dX7_readBarrels_9 : decode cX7_readBarrels 9 = .ok (.getfield 12, 3) := by decide +kernel
theorem dX7_readBarrels_12 : decode cX7_readBarrels 12 = .ok (.ldc 132, 2) := by decide +kernel
theorem dX7_readBarrels_14 : decode cX7_readBarrels 14 = .ok (.invokevirtual 125, 3) := by decide +kernel
theorem dX7_readBarrels_17 : decode cX7_readBarrels 17 = .ok (.ifCond .eq 75, 3) := by decide +kernel
theorem dX7_readBarrels_20 : decode cX7_readBarrels 20 = .ok (.iload_n 2, 1) := by decide +kernel
theorem dX7_readBarrels_21 : decode cX7_readBarrels 21 = .ok (.bipush 20, 2) := by decide +kernel
theorem dX7_readBarrels_23 : decode cX7_readBarrels 23 = .ok (.if_icmp .ne 9, 3) := by decide +kernel
theorem dX7_readBarrels_26 : decode cX7_readBarrels 26 = .ok (.aload_n 0, 1) := by decide +kernel
theorem dX7_readBarrels_27 : decode cX7_readBarrels 27 = .ok (.iconst 3, 1) := by decide +kernel
theorem dX7_readBarrels_28 : decode cX7_readBarrels 28 = .ok (.invokevirtual 54, 3) := by decide +kernel
theorem dX7_readBarrels_31 : decode cX7_readBarrels 31 = .ok (.ireturn, 1) := by decide +kernel
theorem dX7_readBarrels_32 : decode cX7_readBarrels 32 = .ok (.aload_n 0, 1) := by decide +kernel
theorem dX7_readBarrels_33 : decode cX7_readBarrels 33 = .ok (.getfield 12, 3) := by decide +kernel
theorem dX7_readBarrels_36 : decode cX7_readBarrels 36 = .ok (.invokevirtual 65, 3) := by decide +kernel
theorem dX7_readBarrels_39 : decode cX7_readBarrels 39 = .ok (.aload_n 0, 1) := by decide +kernel
theorem dX7_readBarrels_40 : decode cX7_readBarrels 40 = .ok (.aload_n 0, 1) := by decide +kernel
theorem dX7_readBarrels_41 : decode cX7_readBarrels 41 = .ok (.getfield 25, 3) := by decide +kernel
theorem dX7_readBarrels_44 : decode cX7_readBarrels 44 = .ok (.invokevirtual 134, 3) := by decide +kernel
theorem dX7_readBarrels_47 : decode cX7_readBarrels 47 = .ok (.ifCond .eq 10, 3) := by decide +kernel
theorem dX7_readBarrels_50 : decode cX7_readBarrels 50 = .ok (.aload_n 0, 1) := by decide +kernel
theorem dX7_readBarrels_51 : decode cX7_readBarrels 51 = .ok (.invokevirtual 76, 3) := by decide +kernel
theorem dX7_readBarrels_54 : decode cX7_readBarrels 54 = .ok (.ifCond .ne 5, 3) := by decide +kernel
theorem dX7_readBarrels_57 : decode cX7_readBarrels 57 = .ok (.iconst 0, 1) := by decide +kernel
theorem dX7_readBarrels_58 : decode cX7_readBarrels 58 = .ok (.ireturn, 1) := by decide +kernel
theorem dX7_readBarrels_59 : decode cX7_readBarrels 59 = .ok (.aload_n 1, 1) := by decide +kernel
theorem dX7_readBarrels_60 : decode cX7_readBarrels 60 = .ok (.aload_n 0, 1) := by decide +kernel
theorem dX7_readBarrels_61 : decode cX7_readBarrels 61 = .ok (.getfield 25, 3) := by decide +kernel
theorem dX7_readBarrels_64 : decode cX7_readBarrels 64 = .ok (.getfield 138, 3) := by decide +kernel
theorem dX7_readBarrels_67 : decode cX7_readBarrels 67 = .ok (.aload_n 0, 1) := by decide +kernel
theorem dX7_readBarrels_68 : decode cX7_readBarrels 68 = .ok (.getfield 25, 3) := by decide +kernel
theorem dX7_readBarrels_71 : decode cX7_readBarrels 71 = .ok (.getfield 141, 3) := by decide +kernel
theorem dX7_readBarrels_74 : decode cX7_readBarrels 74 = .ok (.iconst 0, 1) := by decide +kernel
theorem dX7_readBarrels_75 : decode cX7_readBarrels 75 = .ok (.aload_n 0, 1) := by decide +kernel
theorem dX7_readBarrels_76 : decode cX7_readBarrels 76 = .ok (.getfield 25, 3) := by decide +kernel
theorem dX7_readBarrels_79 : decode cX7_readBarrels 79 = .ok (.getfield 145, 3) := by decide +kernel
theorem dX7_readBarrels_82 : decode cX7_readBarrels 82 = .ok (.invokevirtual 148, 3) := by decide +kernel
theorem dX7_readBarrels_85 : decode cX7_readBarrels 85 = .ok (.pop, 1) := by decide +kernel
theorem dX7_readBarrels_86 : decode cX7_readBarrels 86 = .ok (.iinc 2 1, 3) := by decide +kernel
theorem dX7_readBarrels_89 : decode cX7_readBarrels 89 = .ok (.goto (-87), 3) := by decide +kernel
theorem dX7_readBarrels_92 : decode cX7_readBarrels 92 = .ok (.iconst 1, 1) := by decide +kernel
theorem dX7_readBarrels_93 : decode cX7_readBarrels 93 = .ok (.ireturn, 1) := by decide +kernel
theorem dX7_readBarrel_0 : decode cX7_readBarrel 0 = .ok (.aload_n 0, 1) := by decide +kernel
theorem dX7_readBarrel_1 : decode cX7_readBarrel 1 = .ok (.iconst 1, 1) := by decide +kernel
theorem dX7_readBarrel_2 : decode cX7_readBarrel 2 = .ok (.sipush 999, 3) := by decide +kernel
theorem dX7_readBarrel_5 : decode cX7_readBarrel 5 = .ok (.invokevirtual 92, 3) := by decide +kernel
theorem dX7_readBarrel_8 : decode cX7_readBarrel 8 = .ok (.ifCond .ne 5, 3) := by decide +kernel
theorem dX7_readBarrel_11 : decode cX7_readBarrel 11 = .ok (.iconst 0, 1) := by decide +kernel
theorem dX7_readBarrel_12 : decode cX7_readBarrel 12 = .ok (.ireturn, 1) := by decide +kernel
theorem dX7_readBarrel_13 : decode cX7_readBarrel 13 = .ok (.aload_n 1, 1) := by decide +kernel
theorem dX7_readBarrel_14 : decode cX7_readBarrel 14 = .ok (.aload_n 0, 1) := by decide +kernel
theorem dX7_readBarrel_15 : decode cX7_readBarrel 15 = .ok (.getfield 100, 3) := by decide +kernel
theorem dX7_readBarrel_18 : decode cX7_readBarrel 18 = .ok (.putfield 138, 3) := by decide +kernel
theorem dX7_readBarrel_21 : decode cX7_readBarrel 21 = .ok (.iconst 0, 1) := by decide +kernel
theorem dX7_readBarrel_22 : decode cX7_readBarrel 22 = .ok (.istore_n 2, 1) := by decide +kernel
theorem dX7_readBarrel_23 : decode cX7_readBarrel 23 = .ok (.iload_n 2, 1) := by decide +kernel
theorem dX7_readBarrel_24 : decode cX7_readBarrel 24 = .ok (.bipush 9, 2) := by decide +kernel
theorem dX7_readBarrel_26 : decode cX7_readBarrel 26 = .ok (.if_icmp .gt 83, 3) := by decide +kernel
theorem dX7_readBarrel_29 : decode cX7_readBarrel 29 = .ok (.iload_n 2, 1) := by decide +kernel
theorem dX7_readBarrel_30 : decode cX7_readBarrel 30 = .ok (.ifCond .eq 14, 3) := by decide +kernel
theorem dX7_readBarrel_33 : decode cX7_readBarrel 33 = .ok (.aload_n 0, 1) := by decide +kernel
theorem dX7_readBarrel_34 : decode cX7_readBarrel 34 = .ok (.getfield 12, 3) := by decide +kernel
theorem dX7_readBarrel_37 : decode cX7_readBarrel 37 = .ok (.getfield 51, 3) := by decide +kernel
theorem dX7_readBarrel_40 : decode cX7_readBarrel 40 = .ok (.iconst 2, 1) := by decide +kernel
theorem dX7_readBarrel_41 : decode cX7_readBarrel 41 = .ok (.if_icmp .ne 68, 3) := by decide +kernel
theorem dX7_readBarrel_44 : decode cX7_readBarrel 44 = .ok (.iload_n 2, 1) := by decide +kernel
theorem dX7_readBarrel_45 : decode cX7_readBarrel 45 = .ok (.bipush 9, 2) := by decide +kernel
theorem dX7_readBarrel_47 : decode cX7_readBarrel 47 = .ok (.if_icmp .ne 25, 3) := by decide +kernel
theorem dX7_readBarrel_50 : decode cX7_readBarrel 50 = .ok (.aload_n 0, 1) := by decide +kernel
theorem dX7_readBarrel_51 : decode cX7_readBarrel 51 = .ok (.aload_n 0, 1) := by decide +kernel
theorem dX7_readBarrel_52 : decode cX7_readBarrel 52 = .ok (.bipush 10, 2) := by decide +kernel
theorem dX7_readBarrel_54 : decode cX7_readBarrel 54 = .ok (.sipush 150, 3) := by decide +kernel
theorem dX7_readBarrel_57 : decode cX7_readBarrel 57 = .ok (.invokevirtual 152, 3) := by decide +kernel
theorem dX7_readBarrel_60 : decode cX7_readBarrel 60 = .ok (.ifCond .eq 7, 3) := by decide +kernel
theorem dX7_readBarrel_63 : decode cX7_readBarrel 63 = .ok (.iconst 3, 1) := by decide +kernel
theorem dX7_readBarrel_64 : decode cX7_readBarrel 64 = .ok (.goto 4, 3) := by decide +kernel
theorem dX7_readBarrel_67 : decode cX7_readBarrel 67 = .ok (.iconst 2, 1) := by decide +kernel
theorem dX7_readBarrel_68 : decode cX7_readBarrel 68 = .ok (.invokevirtual 54, 3) := by decide +kernel
theorem dX7_readBarrel_71 : decode cX7_readBarrel 71 = .ok (.ireturn, 1) := by decide +kernel
theorem dX7_readBarrel_72 : decode cX7_readBarrel 72 = .ok (.aload_n 0, 1) := by decide +kernel
theorem dX7_readBarrel_73 : decode cX7_readBarrel 73 = .ok (.bipush 10, 2) := by decide +kernel
theorem dX7_readBarrel_75 : decode cX7_readBarrel 75 = .ok (.sipush 150, 3) := by decide +kernel
theorem dX7_readBarrel_78 : decode cX7_readBarrel 78 = .ok (.invokevirtual 92, 3) := by decide +kernel
theorem dX7_readBarrel_81 : decode cX7_readBarrel 81 = .ok (.ifCond .ne 5, 3) := by decide +kernel
theorem dX7_readBarrel_84 : decode cX7_readBarrel 84 = .ok (.iconst 0, 1) := by decide +kernel
theorem dX7_readBarrel_85 : decode cX7_readBarrel 85 = .ok (.ireturn, 1) := by decide +kernel
theorem dX7_readBarrel_86 : decode cX7_readBarrel 86 = .ok (.aload_n 1, 1) := by decide +kernel
theorem dX7_readBarrel_87 : decode cX7_readBarrel 87 = .ok (.getfield 141, 3) := by decide +kernel
theorem dX7_readBarrel_90 : decode cX7_readBarrel 90 = .ok (.iload_n 2, 1) := by decide +kernel
theorem dX7_readBarrel_91 : decode cX7_readBarrel 91 = .ok (.aload_n 0, 1) := by decide +kernel
theorem dX7_readBarrel_92 : decode cX7_readBarrel 92 = .ok (.getfield 100, 3) := by decide +kernel
theorem dX7_readBarrel_95 : decode cX7_readBarrel 95 = .ok (.iastore, 1) := by decide +kernel
theorem dX7_readBarrel_96 : decode cX7_readBarrel 96 = .ok (.aload_n 1, 1) := by decide +kernel
theorem dX7_readBarrel_97 : decode cX7_readBarrel 97 = .ok (.iload_n 2, 1) := by decide +kernel
theorem dX7_readBarrel_98 : decode cX7_readBarrel 98 = .ok (.iconst 1, 1) := by decide +kernel
theorem dX7_readBarrel_99 : decode cX7_readBarrel 99 = .ok (.iadd, 1) := by decide +kernel
theorem dX7_readBarrel_100 : decode cX7_readBarrel 100 = .ok (.putfield 145, 3) := by decide +kernel
theorem dX7_readBarrel_103 : decode cX7_readBarrel 103 = .ok (.iinc 2 1, 3) := by decide +kernel
theorem dX7_readBarrel_106 : decode cX7_readBarrel 106 = .ok (.goto (-83), 3) := by decide +kernel
theorem dX7_readBarrel_109 : decode cX7_readBarrel 109 = .ok (.iconst 1, 1) := by decide +kernel
theorem dX7_readBarrel_110 : decode cX7_readBarrel 110 = .ok (.ireturn, 1) := by decide +kernel
theorem dX7_readNumbers_0 : decode cX7_readNumbers 0 = .ok (.getstatic 155, 3) := by decide +kernel
theorem dX7_readNumbers_3 : decode cX7_readNumbers 3 = .ok (.aload_n 1, 1) := by decide +kernel
theorem dX7_readNumbers_4 : decode cX7_readNumbers 4 = .ok (.getfield 68, 3) := by decide +kernel
theorem dX7_readNumbers_7 : decode cX7_readNumbers 7 = .ok (.invokevirtual 160, 3) := by decide +kernel
theorem dX7_readNumbers_10 : decode cX7_readNumbers 10 = .ok (.iaload, 1) := by decide +kernel
theorem dX7_readNumbers_11 : decode cX7_readNumbers 11 = .ok (.tableswitch 120 1 5 #[33, 43, 53, 81, 111], 33) := by decide +kernel
theorem dX7_readNumbers_44 : decode cX7_readNumbers 44 = .ok (.aload_n 0, 1) := by decide +kernel
theorem dX7_readNumbers_45 : decode cX7_readNumbers 45 = .ok (.aload_n 1, 1) := by decide +kernel
theorem dX7_readNumbers_46 : decode cX7_readNumbers 46 = .ok (.iconst 0, 1) := by decide +kernel
theorem dX7_readNumbers_47 : decode cX7_readNumbers 47 = .ok (.iload_n 2, 1) := by decide +kernel
theorem dX7_readNumbers_48 : decode cX7_readNumbers 48 = .ok (.iconst 1, 1) := by decide +kernel
theorem dX7_readNumbers_49 : decode cX7_readNumbers 49 = .ok (.isub, 1) := by decide +kernel
theorem dX7_readNumbers_50 : decode cX7_readNumbers 50 = .ok (.invokevirtual 166, 3) := by decide +kernel
theorem dX7_readNumbers_53 : decode cX7_readNumbers 53 = .ok (.ireturn, 1) := by decide +kernel
theorem dX7_readNumbers_54 : decode cX7_readNumbers 54 = .ok (.aload_n 0, 1) := by decide +kernel
theorem dX7_readNumbers_55 : decode cX7_readNumbers 55 = .ok (.aload_n 1, 1) := by decide +kernel
theorem dX7_readNumbers_56 : decode cX7_readNumbers 56 = .ok (.iconst 1, 1) := by decide +kernel
theorem dX7_readNumbers_57 : decode cX7_readNumbers 57 = .ok (.sipush 200, 3) := by decide +kernel
theorem dX7_readNumbers_60 : decode cX7_readNumbers 60 = .ok (.invokevirtual 166, 3) := by decide +kernel
theorem dX7_readNumbers_63 : decode cX7_readNumbers 63 = .ok (.ireturn, 1) := by decide +kernel
theorem dX7_readNumbers_64 : decode cX7_readNumbers 64 = .ok (.aload_n 0, 1) := by decide +kernel
theorem dX7_readNumbers_65 : decode cX7_readNumbers 65 = .ok (.aload_n 1, 1) := by decide +kernel
theorem dX7_readNumbers_66 : decode cX7_readNumbers 66 = .ok (.iconst 0, 1) := by decide +kernel
theorem dX7_readNumbers_67 : decode cX7_readNumbers 67 = .ok (.bipush 19, 2) := by decide +kernel
theorem dX7_readNumbers_69 : decode cX7_readNumbers 69 = .ok (.invokevirtual 166, 3) := by decide +kernel
theorem dX7_readNumbers_72 : decode cX7_readNumbers 72 = .ok (.ifCond .eq 18, 3) := by decide +kernel
theorem dX7_readNumbers_75 : decode cX7_readNumbers 75 = .ok (.aload_n 0, 1) := by decide +kernel
theorem dX7_readNumbers_76 : decode cX7_readNumbers 76 = .ok (.aload_n 1, 1) := by decide +kernel
theorem dX7_readNumbers_77 : decode cX7_readNumbers 77 = .ok (.iconst 1, 1) := by decide +kernel
theorem dX7_readNumbers_78 : decode cX7_readNumbers 78 = .ok (.bipush 8, 2) := by decide +kernel
theorem dX7_readNumbers_80 : decode cX7_readNumbers 80 = .ok (.invokevirtual 170, 3) := by decide +kernel
theorem dX7_readNumbers_83 : decode cX7_readNumbers 83 = .ok (.ifCond .eq 7, 3) := by decide +kernel
theorem dX7_readNumbers_86 : decode cX7_readNumbers 86 = .ok (.iconst 1, 1) := by decide +kernel
theorem dX7_readNumbers_87 : decode cX7_readNumbers 87 = .ok (.goto 4, 3) := by decide +kernel
theorem dX7_readNumbers_90 : decode cX7_readNumbers 90 = .ok (.iconst 0, 1) := by decide +kernel
theorem dX7_readNumbers_91 : decode cX7_readNumbers 91 = .ok (.ireturn, 1) := by decide +kernel
theorem dX7_readNumbers_92 : decode cX7_readNumbers 92 = .ok (.aload_n 0, 1) := by decide +kernel
theorem dX7_readNumbers_93 : decode cX7_readNumbers 93 = .ok (.aload_n 1, 1) := by decide +kernel
theorem dX7_readNumbers_94 : decode cX7_readNumbers 94 = .ok (.iconst 0, 1) := by decide +kernel
theorem dX7_readNumbers_95 : decode cX7_readNumbers 95 = .ok (.iload_n 2, 1) := by decide +kernel
theorem dX7_readNumbers_96 : decode cX7_readNumbers 96 = .ok (.iconst 1, 1) := by decide +kernel
theorem dX7_readNumbers_97 : decode cX7_readNumbers 97 = .ok (.isub, 1) := by decide +kernel
theorem dX7_readNumbers_98 : decode cX7_readNumbers 98 = .ok (.invokevirtual 166, 3) := by decide +kernel
theorem dX7_readNumbers_101 : decode cX7_readNumbers 101 = .ok (.ifCond .eq 19, 3) := by decide +kernel
theorem dX7_readNumbers_104 : decode cX7_readNumbers 104 = .ok (.aload_n 0, 1) := by decide +kernel
theorem dX7_readNumbers_105 : decode cX7_readNumbers 105 = .ok (.aload_n 1, 1) := by decide +kernel
theorem dX7_readNumbers_106 : decode cX7_readNumbers 106 = .ok (.iconst 1, 1) := by decide +kernel
theorem dX7_readNumbers_107 : decode cX7_readNumbers 107 = .ok (.sipush 9999, 3) := by decide +kernel
theorem dX7_readNumbers_110 : decode cX7_readNumbers 110 = .ok (.invokevirtual 170, 3) := by decide +kernel
theorem dX7_readNumbers_113 : decode cX7_readNumbers 113 = .ok (.ifCond .eq 7, 3) := by decide +kernel
theorem dX7_readNumbers_116 : decode cX7_readNumbers 116 = .ok (.iconst 1, 1) := by decide +kernel
theorem dX7_readNumbers_117 : decode cX7_readNumbers 117 = .ok (.goto 4, 3) := by decide +kernel
theorem dX7_readNumbers_120 : decode cX7_readNumbers 120 = .ok (.iconst 0, 1) := by decide +kernel
theorem dX7_readNumbers_121 : decode cX7_readNumbers 121 = .ok (.ireturn, 1) := by decide +kernel
theorem dX7_readNumbers_122 : decode cX7_readNumbers 122 = .ok (.aload_n 0, 1) := by decide +kernel
theorem dX7_readNumbers_123 : decode cX7_readNumbers 123 = .ok (.aload_n 1, 1) := by decide +kernel
theorem dX7_readNumbers_124 : decode cX7_readNumbers 124 = .ok (.iconst 0, 1) := by decide +kernel
theorem dX7_readNumbers_125 : decode cX7_readNumbers 125 = .ok (.bipush 19, 2) := by decide +kernel
theorem dX7_readNumbers_127 : decode cX7_readNumbers 127 = .ok (.invokevirtual 166, 3) := by decide +kernel
theorem dX7_readNumbers_130 : decode cX7_readNumbers 130 = .ok (.ireturn, 1) := by decide +kernel
theorem dX7_readNumbers_131 : decode cX7_readNumbers 131 = .ok (.aload_n 0, 1) := by decide +kernel
theorem dX7_readNumbers_132 : decode cX7_readNumbers 132 = .ok (.aload_n 1, 1) := by decide +kernel
theorem dX7_readNumbers_133 : decode cX7_readNumbers 133 = .ok (.invokevirtual 134, 3) := by decide +kernel
theorem dX7_readNumbers_136 : decode cX7_readNumbers 136 = .ok (.ireturn, 1) := by decide +kernel
theorem dX7_takeFirst_0 : decode cX7_takeFirst 0 = .ok (.aload_n 0, 1) := by decide +kernel
theorem dX7_takeFirst_1 : decode cX7_takeFirst 1 = .ok (.iload_n 2, 1) := by decide +kernel
theorem dX7_takeFirst_2 : decode cX7_takeFirst 2 = .ok (.iload_n 3, 1) := by decide +kernel
theorem dX7_takeFirst_3 : decode cX7_takeFirst 3 = .ok (.invokevirtual 92, 3) := by decide +kernel
theorem dX7_takeFirst_6 : decode cX7_takeFirst 6 = .ok (.istore 4, 2) := by decide +kernel
theorem dX7_takeFirst_8 : decode cX7_takeFirst 8 = .ok (.aload_n 1, 1) := by decide +kernel
theorem dX7_takeFirst_9 : decode cX7_takeFirst 9 = .ok (.aload_n 0, 1) := by decide +kernel
theorem dX7_takeFirst_10 : decode cX7_takeFirst 10 = .ok (.getfield 100, 3) := by decide +kernel
theorem dX7_takeFirst_13 : decode cX7_takeFirst 13 = .ok (.putfield 138, 3) := by decide +kernel
theorem dX7_takeFirst_16 : decode cX7_takeFirst 16 = .ok (.iload 4, 2) := by decide +kernel
theorem dX7_takeFirst_18 : decode cX7_takeFirst 18 = .ok (.ireturn, 1) := by decide +kernel
theorem dX7_takeSecond_0 : decode cX7_takeSecond 0 = .ok (.aload_n 0, 1) := by decide +kernel
theorem dX7_takeSecond_1 : decode cX7_takeSecond 1 = .ok (.iload_n 2, 1) := by decide +kernel
theorem dX7_takeSecond_2 : decode cX7_takeSecond 2 = .ok (.iload_n 3, 1) := by decide +kernel
theorem dX7_takeSecond_3 : decode cX7_takeSecond 3 = .ok (.invokevirtual 92, 3) := by decide +kernel
theorem dX7_takeSecond_6 : decode cX7_takeSecond 6 = .ok (.istore 4, 2) := by decide +kernel
theorem dX7_takeSecond_8 : decode cX7_takeSecond 8 = .ok (.aload_n 1, 1) := by decide +kernel
theorem dX7_takeSecond_9 : decode cX7_takeSecond 9 = .ok (.aload_n 0, 1) := by decide +kernel
theorem dX7_takeSecond_10 : decode cX7_takeSecond 10 = .ok (.getfield 100, 3) := by decide +kernel
theorem dX7_takeSecond_13 : decode cX7_takeSecond 13 = .ok (.putfield 173, 3) := by decide +kernel
theorem dX7_takeSecond_16 : decode cX7_takeSecond 16 = .ok (.iload 4, 2) := by decide +kernel
theorem dX7_takeSecond_18 : decode cX7_takeSecond 18 = .ok (.ireturn, 1) := by decide +kernel
theorem dX7_verbHere_0 : decode cX7_verbHere 0 = .ok (.iconst 0, 1) := by decide +kernel
theorem dX7_verbHere_1 : decode cX7_verbHere 1 = .ok (.istore_n 1, 1) := by decide +kernel
theorem dX7_verbHere_2 : decode cX7_verbHere 2 = .ok (.iload_n 1, 1) := by decide +kernel
theorem dX7_verbHere_3 : decode cX7_verbHere 3 = .ok (.getstatic 176, 3) := by decide +kernel
theorem dX7_verbHere_6 : decode cX7_verbHere 6 = .ok (.arraylength, 1) := by decide +kernel
theorem dX7_verbHere_7 : decode cX7_verbHere 7 = .ok (.if_icmp .ge 33, 3) := by decide +kernel
theorem dX7_verbHere_10 : decode cX7_verbHere 10 = .ok (.aload_n 0, 1) := by decide +kernel
theorem dX7_verbHere_11 : decode cX7_verbHere 11 = .ok (.getfield 12, 3) := by decide +kernel
theorem dX7_verbHere_14 : decode cX7_verbHere 14 = .ok (.getstatic 176, 3) := by decide +kernel
theorem dX7_verbHere_17 : decode cX7_verbHere 17 = .ok (.iload_n 1, 1) := by decide +kernel
theorem dX7_verbHere_18 : decode cX7_verbHere 18 = .ok (.aaload, 1) := by decide +kernel
theorem dX7_verbHere_19 : decode cX7_verbHere 19 = .ok (.getfield 180, 3) := by decide +kernel
theorem dX7_verbHere_22 : decode cX7_verbHere 22 = .ok (.invokevirtual 125, 3) := by decide +kernel
theorem dX7_verbHere_25 : decode cX7_verbHere 25 = .ok (.ifCond .eq 9, 3) := by decide +kernel
theorem dX7_verbHere_28 : decode cX7_verbHere 28 = .ok (.getstatic 176, 3) := by decide +kernel
theorem dX7_verbHere_31 : decode cX7_verbHere 31 = .ok (.iload_n 1, 1) := by decide +kernel
theorem dX7_verbHere_32 : decode cX7_verbHere 32 = .ok (.aaload, 1) := by decide +kernel
theorem dX7_verbHere_33 : decode cX7_verbHere 33 = .ok (.areturn, 1) := by decide +kernel
theorem dX7_verbHere_34 : decode cX7_verbHere 34 = .ok (.iinc 1 1, 3) := by decide +kernel
theorem dX7_verbHere_37 : decode cX7_verbHere 37 = .ok (.goto (-35), 3) := by decide +kernel
theorem dX7_verbHere_40 : decode cX7_verbHere 40 = .ok (.aconst_null, 1) := by decide +kernel
theorem dX7_verbHere_41 : decode cX7_verbHere 41 = .ok (.areturn, 1) := by decide +kernel
theorem dX7_takeWord_0 : decode cX7_takeWord 0 = .ok (.aload_n 0, 1) := by decide +kernel
theorem dX7_takeWord_1 : decode cX7_takeWord 1 = .ok (.getfield 12, 3) := by decide +kernel
theorem dX7_takeWord_4 : decode cX7_takeWord 4 = .ok (.aload_n 1, 1) := by decide +kernel
theorem dX7_takeWord_5 : decode cX7_takeWord 5 = .ok (.invokevirtual 125, 3) := by decide +kernel
theorem dX7_takeWord_8 : decode cX7_takeWord 8 = .ok (.ifCond .ne 9, 3) := by decide +kernel
theorem dX7_takeWord_11 : decode cX7_takeWord 11 = .ok (.aload_n 0, 1) := by decide +kernel
theorem dX7_takeWord_12 : decode cX7_takeWord 12 = .ok (.iconst 1, 1) := by decide +kernel
theorem dX7_takeWord_13 : decode cX7_takeWord 13 = .ok (.invokevirtual 54, 3) := by decide +kernel
theorem dX7_takeWord_16 : decode cX7_takeWord 16 = .ok (.ireturn, 1) := by decide +kernel
theorem dX7_takeWord_17 : decode cX7_takeWord 17 = .ok (.aload_n 0, 1) := by decide +kernel
theorem dX7_takeWord_18 : decode cX7_takeWord 18 = .ok (.getfield 12, 3) := by decide +kernel
theorem dX7_takeWord_21 : decode cX7_takeWord 21 = .ok (.invokevirtual 65, 3) := by decide +kernel
theorem dX7_takeWord_24 : decode cX7_takeWord 24 = .ok (.iconst 1, 1) := by decide +kernel
theorem dX7_takeWord_25 : decode cX7_takeWord 25 = .ok (.ireturn, 1) := by decide +kernel
theorem dX7_takeSemicolon_0 : decode cX7_takeSemicolon 0 = .ok (.aload_n 0, 1) := by decide +kernel
theorem dX7_takeSemicolon_1 : decode cX7_takeSemicolon 1 = .ok (.getfield 12, 3) := by decide +kernel
theorem dX7_takeSemicolon_4 : decode cX7_takeSemicolon 4 = .ok (.getfield 51, 3) := by decide +kernel
theorem dX7_takeSemicolon_7 : decode cX7_takeSemicolon 7 = .ok (.iconst 3, 1) := by decide +kernel
theorem dX7_takeSemicolon_8 : decode cX7_takeSemicolon 8 = .ok (.if_icmp .eq 9, 3) := by decide +kernel
theorem dX7_takeSemicolon_11 : decode cX7_takeSemicolon 11 = .ok (.aload_n 0, 1) := by decide +kernel
theorem dX7_takeSemicolon_12 : decode cX7_takeSemicolon 12 = .ok (.iconst 1, 1) := by decide +kernel
theorem dX7_takeSemicolon_13 : decode cX7_takeSemicolon 13 = .ok (.invokevirtual 54, 3) := by decide +kernel
theorem dX7_takeSemicolon_16 : decode cX7_takeSemicolon 16 = .ok (.ireturn, 1) := by decide +kernel
theorem dX7_takeSemicolon_17 : decode cX7_takeSemicolon 17 = .ok (.aload_n 0, 1) := by decide +kernel
theorem dX7_takeSemicolon_18 : decode cX7_takeSemicolon 18 = .ok (.getfield 12, 3) := by decide +kernel
theorem dX7_takeSemicolon_21 : decode cX7_takeSemicolon 21 = .ok (.invokevirtual 65, 3) := by decide +kernel
theorem dX7_takeSemicolon_24 : decode cX7_takeSemicolon 24 = .ok (.iconst 1, 1) := by decide +kernel
theorem dX7_takeSemicolon_25 : decode cX7_takeSemicolon 25 = .ok (.ireturn, 1) := by decide +kernel
theorem dX7_takeNumber_0 : decode cX7_takeNumber 0 = .ok (.aload_n 0, 1) := by decide +kernel
theorem dX7_takeNumber_1 : decode cX7_takeNumber 1 = .ok (.getfield 12, 3) := by decide +kernel
theorem dX7_takeNumber_4 : decode cX7_takeNumber 4 = .ok (.getfield 51, 3) := by decide +kernel
theorem dX7_takeNumber_7 : decode cX7_takeNumber 7 = .ok (.iconst 2, 1) := by decide +kernel
theorem dX7_takeNumber_8 : decode cX7_takeNumber 8 = .ok (.if_icmp .eq 9, 3) := by decide +kernel
theorem dX7_takeNumber_11 : decode cX7_takeNumber 11 = .ok (.aload_n 0, 1) := by decide +kernel
theorem dX7_takeNumber_12 : decode cX7_takeNumber 12 = .ok (.iconst 1, 1) := by decide +kernel
theorem dX7_takeNumber_13 : decode cX7_takeNumber 13 = .ok (.invokevirtual 54, 3) := by decide +kernel
theorem dX7_takeNumber_16 : decode cX7_takeNumber 16 = .ok (.ireturn, 1) := by decide +kernel
theorem dX7_takeNumber_17 : decode cX7_takeNumber 17 = .ok (.aload_n 0, 1) := by decide +kernel
theorem dX7_takeNumber_18 : decode cX7_takeNumber 18 = .ok (.iload_n 1, 1) := by decide +kernel
theorem dX7_takeNumber_19 : decode cX7_takeNumber 19 = .ok (.iload_n 2, 1) := by decide +kernel
theorem dX7_takeNumber_20 : decode cX7_takeNumber 20 = .ok (.invokevirtual 152, 3) := by decide +kernel
theorem dX7_takeNumber_23 : decode cX7_takeNumber 23 = .ok (.ifCond .ne 9, 3) := by decide +kernel
theorem dX7_takeNumber_26 : decode cX7_takeNumber 26 = .ok (.aload_n 0, 1) := by decide +kernel
theorem dX7_takeNumber_27 : decode cX7_takeNumber 27 = .ok (.iconst 2, 1) := by decide +kernel
theorem dX7_takeNumber_28 : decode cX7_takeNumber 28 = .ok (.invokevirtual 54, 3) := by decide +kernel
theorem dX7_takeNumber_31 : decode cX7_takeNumber 31 = .ok (.ireturn, 1) := by decide +kernel
theorem dX7_takeNumber_32 : decode cX7_takeNumber 32 = .ok (.aload_n 0, 1) := by decide +kernel
theorem dX7_takeNumber_33 : decode cX7_takeNumber 33 = .ok (.aload_n 0, 1) := by decide +kernel
theorem dX7_takeNumber_34 : decode cX7_takeNumber 34 = .ok (.getfield 12, 3) := by decide +kernel
theorem dX7_takeNumber_37 : decode cX7_takeNumber 37 = .ok (.getfield 184, 3) := by decide +kernel
theorem dX7_takeNumber_40 : decode cX7_takeNumber 40 = .ok (.putfield 100, 3) := by decide +kernel
theorem dX7_takeNumber_43 : decode cX7_takeNumber 43 = .ok (.aload_n 0, 1) := by decide +kernel
theorem dX7_takeNumber_44 : decode cX7_takeNumber 44 = .ok (.getfield 12, 3) := by decide +kernel
theorem dX7_takeNumber_47 : decode cX7_takeNumber 47 = .ok (.invokevirtual 65, 3) := by decide +kernel
theorem dX7_takeNumber_50 : decode cX7_takeNumber 50 = .ok (.iconst 1, 1) := by decide +kernel
theorem dX7_takeNumber_51 : decode cX7_takeNumber 51 = .ok (.ireturn, 1) := by decide +kernel
theorem dX7_isInRange_0 : decode cX7_isInRange 0 = .ok (.aload_n 0, 1) := by decide +kernel
theorem dX7_isInRange_1 : decode cX7_isInRange 1 = .ok (.getfield 12, 3) := by decide +kernel
theorem dX7_isInRange_4 : decode cX7_isInRange 4 = .ok (.getfield 184, 3) := by decide +kernel
theorem dX7_isInRange_7 : decode cX7_isInRange 7 = .ok (.iload_n 1, 1) := by decide +kernel
theorem dX7_isInRange_8 : decode cX7_isInRange 8 = .ok (.if_icmp .lt 18, 3) := by decide +kernel
theorem dX7_isInRange_11 : decode cX7_isInRange 11 = .ok (.aload_n 0, 1) := by decide +kernel
theorem dX7_isInRange_12 : decode cX7_isInRange 12 = .ok (.getfield 12, 3) := by decide +kernel
theorem dX7_isInRange_15 : decode cX7_isInRange 15 = .ok (.getfield 184, 3) := by decide +kernel
theorem dX7_isInRange_18 : decode cX7_isInRange 18 = .ok (.iload_n 2, 1) := by decide +kernel
theorem dX7_isInRange_19 : decode cX7_isInRange 19 = .ok (.if_icmp .gt 7, 3) := by decide +kernel
theorem dX7_isInRange_22 : decode cX7_isInRange 22 = .ok (.iconst 1, 1) := by decide +kernel
theorem dX7_isInRange_23 : decode cX7_isInRange 23 = .ok (.goto 4, 3) := by decide +kernel
theorem dX7_isInRange_26 : decode cX7_isInRange 26 = .ok (.iconst 0, 1) := by decide +kernel
theorem dX7_isInRange_27 : decode cX7_isInRange 27 = .ok (.ireturn, 1) := by decide +kernel
theorem dX7_fail_0 : decode cX7_fail 0 = .ok (.aload_n 0, 1) := by decide +kernel
theorem dX7_fail_1 : decode cX7_fail 1 = .ok (.iload_n 1, 1) := by decide +kernel
theorem dX7_fail_2 : decode cX7_fail 2 = .ok (.putfield 80, 3) := by decide +kernel
theorem dX7_fail_5 : decode cX7_fail 5 = .ok (.aload_n 0, 1) := by decide +kernel
theorem dX7_fail_6 : decode cX7_fail 6 = .ok (.aload_n 0, 1) := by decide +kernel
theorem dX7_fail_7 : decode cX7_fail 7 = .ok (.getfield 12, 3) := by decide +kernel
theorem dX7_fail_10 : decode cX7_fail 10 = .ok (.getfield 187, 3) := by decide +kernel
theorem dX7_fail_13 : decode cX7_fail 13 = .ok (.putfield 29, 3) := by decide +kernel
theorem dX7_fail_16 : decode cX7_fail 16 = .ok (.iconst 0, 1) := by decide +kernel
theorem dX7_fail_17 : decode cX7_fail 17 = .ok (.ireturn, 1) := by decide +kernel
theorem dX8_init_0 : decode cX8_init 0 = .ok (.aload_n 0, 1) := by decide +kernel
theorem dX8_init_1 : decode cX8_init 1 = .ok (.invokespecial 3, 3) := by decide +kernel
theorem dX8_init_4 : decode cX8_init 4 = .ok (.aload_n 0, 1) := by decide +kernel
theorem dX8_init_5 : decode cX8_init 5 = .ok (.iconst 5, 1) := by decide +kernel
theorem dX8_init_6 : decode cX8_init 6 = .ok (.putfield 9, 3) := by decide +kernel
theorem dX8_init_9 : decode cX8_init 9 = .ok (.aload_n 0, 1) := by decide +kernel
theorem dX8_init_10 : decode cX8_init 10 = .ok (.iconst 1, 1) := by decide +kernel
theorem dX8_init_11 : decode cX8_init 11 = .ok (.putfield 15, 3) := by decide +kernel
theorem dX8_init_14 : decode cX8_init 14 = .ok (.return_, 1) := by decide +kernel
theorem dX8_isLow_0 : decode cX8_isLow 0 = .ok (.aload_n 0, 1) := by decide +kernel
theorem dX8_isLow_1 : decode cX8_isLow 1 = .ok (.getfield 9, 3) := by decide +kernel
theorem dX8_isLow_4 : decode cX8_isLow 4 = .ok (.ifCond .le 23, 3) := by decide +kernel
theorem dX8_isLow_7 : decode cX8_isLow 7 = .ok (.aload_n 0, 1) := by decide +kernel
theorem dX8_isLow_8 : decode cX8_isLow 8 = .ok (.getfield 18, 3) := by decide +kernel
theorem dX8_isLow_11 : decode cX8_isLow 11 = .ok (.aload_n 0, 1) := by decide +kernel
theorem dX8_isLow_12 : decode cX8_isLow 12 = .ok (.getfield 9, 3) := by decide +kernel
theorem dX8_isLow_15 : decode cX8_isLow 15 = .ok (.irem, 1) := by decide +kernel
theorem dX8_isLow_16 : decode cX8_isLow 16 = .ok (.aload_n 0, 1) := by decide +kernel
theorem dX8_isLow_17 : decode cX8_isLow 17 = .ok (.getfield 15, 3) := by decide +kernel
theorem dX8_isLow_20 : decode cX8_isLow 20 = .ok (.if_icmp .ge 7, 3) := by decide +kernel
theorem dX8_isLow_23 : decode cX8_isLow 23 = .ok (.iconst 1, 1) := by decide +kernel
theorem dX8_isLow_24 : decode cX8_isLow 24 = .ok (.goto 4, 3) := by decide +kernel
theorem dX8_isLow_27 : decode cX8_isLow 27 = .ok (.iconst 0, 1) := by decide +kernel
theorem dX8_isLow_28 : decode cX8_isLow 28 = .ok (.ireturn, 1) := by decide +kernel
theorem dX8_hornBlows_0 : decode cX8_hornBlows 0 = .ok (.aload_n 0, 1) := by decide +kernel
theorem dX8_hornBlows_1 : decode cX8_hornBlows 1 = .ok (.getfield 9, 3) := by decide +kernel
theorem dX8_hornBlows_4 : decode cX8_hornBlows 4 = .ok (.ifCond .le 23, 3) := by decide +kernel
theorem dX8_hornBlows_7 : decode cX8_hornBlows 7 = .ok (.aload_n 0, 1) := by decide +kernel
theorem dX8_hornBlows_8 : decode cX8_hornBlows 8 = .ok (.getfield 18, 3) := by decide +kernel
theorem dX8_hornBlows_11 : decode cX8_hornBlows 11 = .ok (.aload_n 0, 1) := by decide +kernel
theorem dX8_hornBlows_12 : decode cX8_hornBlows 12 = .ok (.getfield 9, 3) := by decide +kernel
theorem dX8_hornBlows_15 : decode cX8_hornBlows 15 = .ok (.irem, 1) := by decide +kernel
theorem dX8_hornBlows_16 : decode cX8_hornBlows 16 = .ok (.aload_n 0, 1) := by decide +kernel
theorem dX8_hornBlows_17 : decode cX8_hornBlows 17 = .ok (.getfield 15, 3) := by decide +kernel
theorem dX8_hornBlows_20 : decode cX8_hornBlows 20 = .ok (.if_icmp .ne 7, 3) := by decide +kernel
theorem dX8_hornBlows_23 : decode cX8_hornBlows 23 = .ok (.iconst 1, 1) := by decide +kernel
theorem dX8_hornBlows_24 : decode cX8_hornBlows 24 = .ok (.goto 4, 3) := by decide +kernel
theorem dX8_hornBlows_27 : decode cX8_hornBlows 27 = .ok (.iconst 0, 1) := by decide +kernel
theorem dX8_hornBlows_28 : decode cX8_hornBlows 28 = .ok (.ireturn, 1) := by decide +kernel
theorem dX8_untilHorn_0 : decode cX8_untilHorn 0 = .ok (.aload_n 0, 1) := by decide +kernel
theorem dX8_untilHorn_1 : decode cX8_untilHorn 1 = .ok (.getfield 9, 3) := by decide +kernel
theorem dX8_untilHorn_4 : decode cX8_untilHorn 4 = .ok (.ifCond .le 14, 3) := by decide +kernel
theorem dX8_untilHorn_7 : decode cX8_untilHorn 7 = .ok (.aload_n 0, 1) := by decide +kernel
theorem dX8_untilHorn_8 : decode cX8_untilHorn 8 = .ok (.getfield 15, 3) := by decide +kernel
theorem dX8_untilHorn_11 : decode cX8_untilHorn 11 = .ok (.aload_n 0, 1) := by decide +kernel
theorem dX8_untilHorn_12 : decode cX8_untilHorn 12 = .ok (.getfield 9, 3) := by decide +kernel
theorem dX8_untilHorn_15 : decode cX8_untilHorn 15 = .ok (.if_icmp .lt 5, 3) := by decide +kernel
theorem dX8_untilHorn_18 : decode cX8_untilHorn 18 = .ok (.iconst (-1), 1) := by decide +kernel
theorem dX8_untilHorn_19 : decode cX8_untilHorn 19 = .ok (.ireturn, 1) := by decide +kernel
theorem dX8_untilHorn_20 : decode cX8_untilHorn 20 = .ok (.aload_n 0, 1) := by decide +kernel
theorem dX8_untilHorn_21 : decode cX8_untilHorn 21 = .ok (.getfield 15, 3) := by decide +kernel
theorem dX8_untilHorn_24 : decode cX8_untilHorn 24 = .ok (.aload_n 0, 1) := by decide +kernel
theorem dX8_untilHorn_25 : decode cX8_untilHorn 25 = .ok (.getfield 18, 3) := by decide +kernel
theorem dX8_untilHorn_28 : decode cX8_untilHorn 28 = .ok (.aload_n 0, 1) := by decide +kernel
theorem dX8_untilHorn_29 : decode cX8_untilHorn 29 = .ok (.getfield 9, 3) := by decide +kernel
theorem dX8_untilHorn_32 : decode cX8_untilHorn 32 = .ok (.irem, 1) := by decide +kernel
theorem dX8_untilHorn_33 : decode cX8_untilHorn 33 = .ok (.isub, 1) := by decide +kernel
theorem dX8_untilHorn_34 : decode cX8_untilHorn 34 = .ok (.istore_n 1, 1) := by decide +kernel
theorem dX8_untilHorn_35 : decode cX8_untilHorn 35 = .ok (.iload_n 1, 1) := by decide +kernel
theorem dX8_untilHorn_36 : decode cX8_untilHorn 36 = .ok (.ifCond .le 7, 3) := by decide +kernel
theorem dX8_untilHorn_39 : decode cX8_untilHorn 39 = .ok (.iload_n 1, 1) := by decide +kernel
theorem dX8_untilHorn_40 : decode cX8_untilHorn 40 = .ok (.goto 9, 3) := by decide +kernel
theorem dX8_untilHorn_43 : decode cX8_untilHorn 43 = .ok (.iload_n 1, 1) := by decide +kernel
theorem dX8_untilHorn_44 : decode cX8_untilHorn 44 = .ok (.aload_n 0, 1) := by decide +kernel
theorem dX8_untilHorn_45 : decode cX8_untilHorn 45 = .ok (.getfield 9, 3) := by decide +kernel
theorem dX8_untilHorn_48 : decode cX8_untilHorn 48 = .ok (.iadd, 1) := by decide +kernel
theorem dX8_untilHorn_49 : decode cX8_untilHorn 49 = .ok (.ireturn, 1) := by decide +kernel
theorem dX8_copyFrom_0 : decode cX8_copyFrom 0 = .ok (.aload_n 0, 1) := by decide +kernel
theorem dX8_copyFrom_1 : decode cX8_copyFrom 1 = .ok (.aload_n 1, 1) := by decide +kernel
theorem dX8_copyFrom_2 : decode cX8_copyFrom 2 = .ok (.getfield 9, 3) := by decide +kernel
theorem dX8_copyFrom_5 : decode cX8_copyFrom 5 = .ok (.putfield 9, 3) := by decide +kernel
theorem dX8_copyFrom_8 : decode cX8_copyFrom 8 = .ok (.aload_n 0, 1) := by decide +kernel
theorem dX8_copyFrom_9 : decode cX8_copyFrom 9 = .ok (.aload_n 1, 1) := by decide +kernel
theorem dX8_copyFrom_10 : decode cX8_copyFrom 10 = .ok (.getfield 15, 3) := by decide +kernel
theorem dX8_copyFrom_13 : decode cX8_copyFrom 13 = .ok (.putfield 15, 3) := by decide +kernel
theorem dX8_copyFrom_16 : decode cX8_copyFrom 16 = .ok (.aload_n 0, 1) := by decide +kernel
theorem dX8_copyFrom_17 : decode cX8_copyFrom 17 = .ok (.aload_n 1, 1) := by decide +kernel
theorem dX8_copyFrom_18 : decode cX8_copyFrom 18 = .ok (.getfield 18, 3) := by decide +kernel
theorem dX8_copyFrom_21 : decode cX8_copyFrom 21 = .ok (.putfield 18, 3) := by decide +kernel
theorem dX8_copyFrom_24 : decode cX8_copyFrom 24 = .ok (.return_, 1) := by decide +kernel
