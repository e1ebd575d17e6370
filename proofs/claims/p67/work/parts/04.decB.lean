theorem dX6_coinsInPurses_24 : decode cX6_coinsInPurses 24 = .ok (.iinc 2 1, 3) := by decide +kernel
theorem dX6_coinsInPurses_27 : decode cX6_coinsInPurses 27 = .ok (.goto (-23), 3) := by decide +kernel
theorem dX6_coinsInPurses_30 : decode cX6_coinsInPurses 30 = .ok (.iload_n 1, 1) := by decide +kernel
theorem dX6_coinsInPurses_31 : decode cX6_coinsInPurses 31 = .ok (.ireturn, 1) := by decide +kernel
theorem dX6_keenest_0 : decode cX6_keenest 0 = .ok (.iconst 0, 1) := by decide +kernel
theorem dX6_keenest_1 : decode cX6_keenest 1 = .ok (.istore_n 2, 1) := by decide +kernel
theorem dX6_keenest_2 : decode cX6_keenest 2 = .ok (.iconst 1, 1) := by decide +kernel
theorem dX6_keenest_3 : decode cX6_keenest 3 = .ok (.istore_n 3, 1) := by decide +kernel
theorem dX6_keenest_4 : decode cX6_keenest 4 = .ok (.iload_n 3, 1) := by decide +kernel
theorem dX6_keenest_5 : decode cX6_keenest 5 = .ok (.aload_n 0, 1) := by decide +kernel
theorem dX6_keenest_6 : decode cX6_keenest 6 = .ok (.getfield 71, 3) := by decide +kernel
theorem dX6_keenest_9 : decode cX6_keenest 9 = .ok (.if_icmp .ge 35, 3) := by decide +kernel
theorem dX6_keenest_12 : decode cX6_keenest 12 = .ok (.aload_n 0, 1) := by decide +kernel
theorem dX6_keenest_13 : decode cX6_keenest 13 = .ok (.getfield 27, 3) := by decide +kernel
theorem dX6_keenest_16 : decode cX6_keenest 16 = .ok (.iload_n 3, 1) := by decide +kernel
theorem dX6_keenest_17 : decode cX6_keenest 17 = .ok (.aaload, 1) := by decide +kernel
theorem dX6_keenest_18 : decode cX6_keenest 18 = .ok (.aload_n 1, 1) := by decide +kernel
theorem dX6_keenest_19 : decode cX6_keenest 19 = .ok (.invokevirtual 166, 3) := by decide +kernel
theorem dX6_keenest_22 : decode cX6_keenest 22 = .ok (.aload_n 0, 1) := by decide +kernel
theorem dX6_keenest_23 : decode cX6_keenest 23 = .ok (.getfield 27, 3) := by decide +kernel
theorem dX6_keenest_26 : decode cX6_keenest 26 = .ok (.iload_n 2, 1) := by decide +kernel
theorem dX6_keenest_27 : decode cX6_keenest 27 = .ok (.aaload, 1) := by decide +kernel
theorem dX6_keenest_28 : decode cX6_keenest 28 = .ok (.aload_n 1, 1) := by decide +kernel
theorem dX6_keenest_29 : decode cX6_keenest 29 = .ok (.invokevirtual 166, 3) := by decide +kernel
theorem dX6_keenest_32 : decode cX6_keenest 32 = .ok (.dcmp .l, 1) := by decide +kernel
theorem dX6_keenest_33 : decode cX6_keenest 33 = .ok (.ifCond .le 5, 3) := by decide +kernel
theorem dX6_keenest_36 : decode cX6_keenest 36 = .ok (.iload_n 3, 1) := by decide +kernel
theorem dX6_keenest_37 : decode cX6_keenest 37 = .ok (.istore_n 2, 1) := by decide +kernel
theorem dX6_keenest_38 : decode cX6_keenest 38 = .ok (.iinc 3 1, 3) := by decide +kernel
theorem dX6_keenest_41 : decode cX6_keenest 41 = .ok (.goto (-37), 3) := by decide +kernel
theorem dX6_keenest_44 : decode cX6_keenest 44 = .ok (.iload_n 2, 1) := by decide +kernel
theorem dX6_keenest_45 : decode cX6_keenest 45 = .ok (.ireturn, 1) := by decide +kernel
theorem dX6_withFee_0 : decode cX6_withFee 0 = .ok (.iload_n 1, 1) := by decide +kernel
theorem dX6_withFee_1 : decode cX6_withFee 1 = .ok (.iload_n 1, 1) := by decide +kernel
theorem dX6_withFee_2 : decode cX6_withFee 2 = .ok (.aload_n 0, 1) := by decide +kernel
theorem dX6_withFee_3 : decode cX6_withFee 3 = .ok (.getfield 59, 3) := by decide +kernel
theorem dX6_withFee_6 : decode cX6_withFee 6 = .ok (.imul, 1) := by decide +kernel
theorem dX6_withFee_7 : decode cX6_withFee 7 = .ok (.bipush 100, 2) := by decide +kernel
theorem dX6_withFee_9 : decode cX6_withFee 9 = .ok (.idiv, 1) := by decide +kernel
theorem dX6_withFee_10 : decode cX6_withFee 10 = .ok (.iadd, 1) := by decide +kernel
theorem dX6_withFee_11 : decode cX6_withFee 11 = .ok (.ireturn, 1) := by decide +kernel
theorem dX6_nextPrice_0 : decode cX6_nextPrice 0 = .ok (.aload_n 0, 1) := by decide +kernel
theorem dX6_nextPrice_1 : decode cX6_nextPrice 1 = .ok (.getfield 41, 3) := by decide +kernel
theorem dX6_nextPrice_4 : decode cX6_nextPrice 4 = .ok (.iconst (-1), 1) := by decide +kernel
theorem dX6_nextPrice_5 : decode cX6_nextPrice 5 = .ok (.if_icmp .ne 5, 3) := by decide +kernel
theorem dX6_nextPrice_8 : decode cX6_nextPrice 8 = .ok (.iconst (-1), 1) := by decide +kernel
theorem dX6_nextPrice_9 : decode cX6_nextPrice 9 = .ok (.ireturn, 1) := by decide +kernel
theorem dX6_nextPrice_10 : decode cX6_nextPrice 10 = .ok (.aload_n 0, 1) := by decide +kernel
theorem dX6_nextPrice_11 : decode cX6_nextPrice 11 = .ok (.getfield 47, 3) := by decide +kernel
theorem dX6_nextPrice_14 : decode cX6_nextPrice 14 = .ok (.iconst (-1), 1) := by decide +kernel
theorem dX6_nextPrice_15 : decode cX6_nextPrice 15 = .ok (.if_icmp .ne 18, 3) := by decide +kernel
theorem dX6_nextPrice_18 : decode cX6_nextPrice 18 = .ok (.aload_n 0, 1) := by decide +kernel
theorem dX6_nextPrice_19 : decode cX6_nextPrice 19 = .ok (.getfield 33, 3) := by decide +kernel
theorem dX6_nextPrice_22 : decode cX6_nextPrice 22 = .ok (.aload_n 0, 1) := by decide +kernel
theorem dX6_nextPrice_23 : decode cX6_nextPrice 23 = .ok (.getfield 41, 3) := by decide +kernel
theorem dX6_nextPrice_26 : decode cX6_nextPrice 26 = .ok (.aaload, 1) := by decide +kernel
theorem dX6_nextPrice_27 : decode cX6_nextPrice 27 = .ok (.getfield 134, 3) := by decide +kernel
theorem dX6_nextPrice_30 : decode cX6_nextPrice 30 = .ok (.goto 12, 3) := by decide +kernel
theorem dX6_nextPrice_33 : decode cX6_nextPrice 33 = .ok (.aload_n 0, 1) := by decide +kernel
theorem dX6_nextPrice_34 : decode cX6_nextPrice 34 = .ok (.getfield 44, 3) := by decide +kernel
theorem dX6_nextPrice_37 : decode cX6_nextPrice 37 = .ok (.aload_n 0, 1) := by decide +kernel
theorem dX6_nextPrice_38 : decode cX6_nextPrice 38 = .ok (.getfield 22, 3) := by decide +kernel
theorem dX6_nextPrice_41 : decode cX6_nextPrice 41 = .ok (.iadd, 1) := by decide +kernel
theorem dX6_nextPrice_42 : decode cX6_nextPrice 42 = .ok (.ireturn, 1) := by decide +kernel
theorem dX6_refusal_0 : decode cX6_refusal 0 = .ok (.aload_n 0, 1) := by decide +kernel
theorem dX6_refusal_1 : decode cX6_refusal 1 = .ok (.getfield 12, 3) := by decide +kernel
theorem dX6_refusal_4 : decode cX6_refusal 4 = .ok (.invokevirtual 170, 3) := by decide +kernel
theorem dX6_refusal_7 : decode cX6_refusal 7 = .ok (.ifCond .ne 5, 3) := by decide +kernel
theorem dX6_refusal_10 : decode cX6_refusal 10 = .ok (.iconst 1, 1) := by decide +kernel
theorem dX6_refusal_11 : decode cX6_refusal 11 = .ok (.ireturn, 1) := by decide +kernel
theorem dX6_refusal_12 : decode cX6_refusal 12 = .ok (.aload_n 0, 1) := by decide +kernel
theorem dX6_refusal_13 : decode cX6_refusal 13 = .ok (.getfield 41, 3) := by decide +kernel
theorem dX6_refusal_16 : decode cX6_refusal 16 = .ok (.iconst (-1), 1) := by decide +kernel
theorem dX6_refusal_17 : decode cX6_refusal 17 = .ok (.if_icmp .ne 5, 3) := by decide +kernel
theorem dX6_refusal_20 : decode cX6_refusal 20 = .ok (.iconst 2, 1) := by decide +kernel
theorem dX6_refusal_21 : decode cX6_refusal 21 = .ok (.ireturn, 1) := by decide +kernel
theorem dX6_refusal_22 : decode cX6_refusal 22 = .ok (.iload_n 1, 1) := by decide +kernel
theorem dX6_refusal_23 : decode cX6_refusal 23 = .ok (.aload_n 0, 1) := by decide +kernel
theorem dX6_refusal_24 : decode cX6_refusal 24 = .ok (.getfield 47, 3) := by decide +kernel
theorem dX6_refusal_27 : decode cX6_refusal 27 = .ok (.if_icmp .ne 5, 3) := by decide +kernel
theorem dX6_refusal_30 : decode cX6_refusal 30 = .ok (.iconst 3, 1) := by decide +kernel
theorem dX6_refusal_31 : decode cX6_refusal 31 = .ok (.ireturn, 1) := by decide +kernel
theorem dX6_refusal_32 : decode cX6_refusal 32 = .ok (.aload_n 0, 1) := by decide +kernel
theorem dX6_refusal_33 : decode cX6_refusal 33 = .ok (.iload_n 1, 1) := by decide +kernel
theorem dX6_refusal_34 : decode cX6_refusal 34 = .ok (.invokevirtual 156, 3) := by decide +kernel
theorem dX6_refusal_37 : decode cX6_refusal 37 = .ok (.ifCond .eq 27, 3) := by decide +kernel
theorem dX6_refusal_40 : decode cX6_refusal 40 = .ok (.aload_n 0, 1) := by decide +kernel
theorem dX6_refusal_41 : decode cX6_refusal 41 = .ok (.getfield 27, 3) := by decide +kernel
theorem dX6_refusal_44 : decode cX6_refusal 44 = .ok (.iload_n 1, 1) := by decide +kernel
theorem dX6_refusal_45 : decode cX6_refusal 45 = .ok (.aaload, 1) := by decide +kernel
theorem dX6_refusal_46 : decode cX6_refusal 46 = .ok (.getfield 160, 3) := by decide +kernel
theorem dX6_refusal_49 : decode cX6_refusal 49 = .ok (.aload_n 0, 1) := by decide +kernel
theorem dX6_refusal_50 : decode cX6_refusal 50 = .ok (.aload_n 0, 1) := by decide +kernel
theorem dX6_refusal_51 : decode cX6_refusal 51 = .ok (.invokevirtual 173, 3) := by decide +kernel
theorem dX6_refusal_54 : decode cX6_refusal 54 = .ok (.invokevirtual 177, 3) := by decide +kernel
theorem dX6_refusal_57 : decode cX6_refusal 57 = .ok (.if_icmp .lt 7, 3) := by decide +kernel
theorem dX6_refusal_60 : decode cX6_refusal 60 = .ok (.iconst 0, 1) := by decide +kernel
theorem dX6_refusal_61 : decode cX6_refusal 61 = .ok (.goto 4, 3) := by decide +kernel
theorem dX6_refusal_64 : decode cX6_refusal 64 = .ok (.iconst 4, 1) := by decide +kernel
theorem dX6_refusal_65 : decode cX6_refusal 65 = .ok (.ireturn, 1) := by decide +kernel
theorem dX6_whoNods_0 : decode cX6_whoNods 0 = .ok (.aload_n 0, 1) := by decide +kernel
theorem dX6_whoNods_1 : decode cX6_whoNods 1 = .ok (.getfield 41, 3) := by decide +kernel
theorem dX6_whoNods_4 : decode cX6_whoNods 4 = .ok (.iconst (-1), 1) := by decide +kernel
theorem dX6_whoNods_5 : decode cX6_whoNods 5 = .ok (.if_icmp .ne 5, 3) := by decide +kernel
theorem dX6_whoNods_8 : decode cX6_whoNods 8 = .ok (.iconst (-1), 1) := by decide +kernel
theorem dX6_whoNods_9 : decode cX6_whoNods 9 = .ok (.ireturn, 1) := by decide +kernel
theorem dX6_whoNods_10 : decode cX6_whoNods 10 = .ok (.aload_n 0, 1) := by decide +kernel
theorem dX6_whoNods_11 : decode cX6_whoNods 11 = .ok (.getfield 33, 3) := by decide +kernel
theorem dX6_whoNods_14 : decode cX6_whoNods 14 = .ok (.aload_n 0, 1) := by decide +kernel
theorem dX6_whoNods_15 : decode cX6_whoNods 15 = .ok (.getfield 41, 3) := by decide +kernel
theorem dX6_whoNods_18 : decode cX6_whoNods 18 = .ok (.aaload, 1) := by decide +kernel
theorem dX6_whoNods_19 : decode cX6_whoNods 19 = .ok (.astore_n 1, 1) := by decide +kernel
theorem dX6_whoNods_20 : decode cX6_whoNods 20 = .ok (.aload_n 0, 1) := by decide +kernel
theorem dX6_whoNods_21 : decode cX6_whoNods 21 = .ok (.invokevirtual 173, 3) := by decide +kernel
theorem dX6_whoNods_24 : decode cX6_whoNods 24 = .ok (.istore_n 2, 1) := by decide +kernel
theorem dX6_whoNods_25 : decode cX6_whoNods 25 = .ok (.aload_n 0, 1) := by decide +kernel
theorem dX6_whoNods_26 : decode cX6_whoNods 26 = .ok (.getfield 47, 3) := by decide +kernel
theorem dX6_whoNods_29 : decode cX6_whoNods 29 = .ok (.istore_n 3, 1) := by decide +kernel
theorem dX6_whoNods_30 : decode cX6_whoNods 30 = .ok (.iconst 0, 1) := by decide +kernel
theorem dX6_whoNods_31 : decode cX6_whoNods 31 = .ok (.istore 4, 2) := by decide +kernel
theorem dX6_whoNods_33 : decode cX6_whoNods 33 = .ok (.iload 4, 2) := by decide +kernel
theorem dX6_whoNods_35 : decode cX6_whoNods 35 = .ok (.aload_n 0, 1) := by decide +kernel
theorem dX6_whoNods_36 : decode cX6_whoNods 36 = .ok (.getfield 71, 3) := by decide +kernel
theorem dX6_whoNods_39 : decode cX6_whoNods 39 = .ok (.if_icmp .ge 53, 3) := by decide +kernel
theorem dX6_whoNods_42 : decode cX6_whoNods 42 = .ok (.iload_n 3, 1) := by decide +kernel
theorem dX6_whoNods_43 : decode cX6_whoNods 43 = .ok (.iconst 1, 1) := by decide +kernel
theorem dX6_whoNods_44 : decode cX6_whoNods 44 = .ok (.iadd, 1) := by decide +kernel
theorem dX6_whoNods_45 : decode cX6_whoNods 45 = .ok (.aload_n 0, 1) := by decide +kernel
theorem dX6_whoNods_46 : decode cX6_whoNods 46 = .ok (.getfield 71, 3) := by decide +kernel
theorem dX6_whoNods_49 : decode cX6_whoNods 49 = .ok (.if_icmp .ge 9, 3) := by decide +kernel
theorem dX6_whoNods_52 : decode cX6_whoNods 52 = .ok (.iload_n 3, 1) := by decide +kernel
theorem dX6_whoNods_53 : decode cX6_whoNods 53 = .ok (.iconst 1, 1) := by decide +kernel
theorem dX6_whoNods_54 : decode cX6_whoNods 54 = .ok (.iadd, 1) := by decide +kernel
theorem dX6_whoNods_55 : decode cX6_whoNods 55 = .ok (.goto 4, 3) := by decide +kernel
theorem dX6_whoNods_58 : decode cX6_whoNods 58 = .ok (.iconst 0, 1) := by decide +kernel
theorem dX6_whoNods_59 : decode cX6_whoNods 59 = .ok (.istore_n 3, 1) := by decide +kernel
theorem dX6_whoNods_60 : decode cX6_whoNods 60 = .ok (.aload_n 0, 1) := by decide +kernel
theorem dX6_whoNods_61 : decode cX6_whoNods 61 = .ok (.iload_n 3, 1) := by decide +kernel
theorem dX6_whoNods_62 : decode cX6_whoNods 62 = .ok (.invokevirtual 181, 3) := by decide +kernel
theorem dX6_whoNods_65 : decode cX6_whoNods 65 = .ok (.ifCond .ne 21, 3) := by decide +kernel
theorem dX6_whoNods_68 : decode cX6_whoNods 68 = .ok (.aload_n 0, 1) := by decide +kernel
theorem dX6_whoNods_69 : decode cX6_whoNods 69 = .ok (.getfield 27, 3) := by decide +kernel
theorem dX6_whoNods_72 : decode cX6_whoNods 72 = .ok (.iload_n 3, 1) := by decide +kernel
theorem dX6_whoNods_73 : decode cX6_whoNods 73 = .ok (.aaload, 1) := by decide +kernel
theorem dX6_whoNods_74 : decode cX6_whoNods 74 = .ok (.aload_n 1, 1) := by decide +kernel
theorem dX6_whoNods_75 : decode cX6_whoNods 75 = .ok (.invokevirtual 166, 3) := by decide +kernel
theorem dX6_whoNods_78 : decode cX6_whoNods 78 = .ok (.iload_n 2, 1) := by decide +kernel
theorem dX6_whoNods_79 : decode cX6_whoNods 79 = .ok (.i2d, 1) := by decide +kernel
theorem dX6_whoNods_80 : decode cX6_whoNods 80 = .ok (.dcmp .l, 1) := by decide +kernel
theorem dX6_whoNods_81 : decode cX6_whoNods 81 = .ok (.ifCond .lt 5, 3) := by decide +kernel
theorem dX6_whoNods_84 : decode cX6_whoNods 84 = .ok (.iload_n 3, 1) := by decide +kernel
theorem dX6_whoNods_85 : decode cX6_whoNods 85 = .ok (.ireturn, 1) := by decide +kernel
theorem dX6_whoNods_86 : decode cX6_whoNods 86 = .ok (.iinc 4 1, 3) := by decide +kernel
theorem dX6_whoNods_89 : decode cX6_whoNods 89 = .ok (.goto (-56), 3) := by decide +kernel
theorem dX6_whoNods_92 : decode cX6_whoNods 92 = .ok (.iconst (-1), 1) := by decide +kernel
theorem dX6_whoNods_93 : decode cX6_whoNods 93 = .ok (.ireturn, 1) := by decide +kernel
theorem dX6_takeNod_0 : decode cX6_takeNod 0 = .ok (.aload_n 0, 1) := by decide +kernel
theorem dX6_takeNod_1 : decode cX6_takeNod 1 = .ok (.iload_n 1, 1) := by decide +kernel
theorem dX6_takeNod_2 : decode cX6_takeNod 2 = .ok (.invokevirtual 156, 3) := by decide +kernel
theorem dX6_takeNod_5 : decode cX6_takeNod 5 = .ok (.ifCond .eq 36, 3) := by decide +kernel
theorem dX6_takeNod_8 : decode cX6_takeNod 8 = .ok (.aload_n 0, 1) := by decide +kernel
theorem dX6_takeNod_9 : decode cX6_takeNod 9 = .ok (.aload_n 0, 1) := by decide +kernel
theorem dX6_takeNod_10 : decode cX6_takeNod 10 = .ok (.invokevirtual 173, 3) := by decide +kernel
theorem dX6_takeNod_13 : decode cX6_takeNod 13 = .ok (.putfield 44, 3) := by decide +kernel
theorem dX6_takeNod_16 : decode cX6_takeNod 16 = .ok (.aload_n 0, 1) := by decide +kernel
theorem dX6_takeNod_17 : decode cX6_takeNod 17 = .ok (.iload_n 1, 1) := by decide +kernel
theorem dX6_takeNod_18 : decode cX6_takeNod 18 = .ok (.putfield 47, 3) := by decide +kernel
theorem dX6_takeNod_21 : decode cX6_takeNod 21 = .ok (.aload_n 0, 1) := by decide +kernel
theorem dX6_takeNod_22 : decode cX6_takeNod 22 = .ok (.iconst 0, 1) := by decide +kernel
theorem dX6_takeNod_23 : decode cX6_takeNod 23 = .ok (.putfield 50, 3) := by decide +kernel
theorem dX6_takeNod_26 : decode cX6_takeNod 26 = .ok (.aload_n 0, 1) := by decide +kernel
theorem dX6_takeNod_27 : decode cX6_takeNod 27 = .ok (.getfield 27, 3) := by decide +kernel
theorem dX6_takeNod_30 : decode cX6_takeNod 30 = .ok (.iload_n 1, 1) := by decide +kernel
theorem dX6_takeNod_31 : decode cX6_takeNod 31 = .ok (.aaload, 1) := by decide +kernel
theorem dX6_takeNod_32 : decode cX6_takeNod 32 = .ok (.dup, 1) := by decide +kernel
theorem dX6_takeNod_33 : decode cX6_takeNod 33 = .ok (.getfield 184, 3) := by decide +kernel
theorem dX6_takeNod_36 : decode cX6_takeNod 36 = .ok (.iconst 1, 1) := by decide +kernel
theorem dX6_takeNod_37 : decode cX6_takeNod 37 = .ok (.iadd, 1) := by decide +kernel
theorem dX6_takeNod_38 : decode cX6_takeNod 38 = .ok (.putfield 184, 3) := by decide +kernel
theorem dX6_takeNod_41 : decode cX6_takeNod 41 = .ok (.return_, 1) := by decide +kernel
theorem dX6_letPass_0 : decode cX6_letPass 0 = .ok (.iconst 0, 1) := by decide +kernel
theorem dX6_letPass_1 : decode cX6_letPass 1 = .ok (.istore_n 2, 1) := by decide +kernel
theorem dX6_letPass_2 : decode cX6_letPass 2 = .ok (.iconst 0, 1) := by decide +kernel
theorem dX6_letPass_3 : decode cX6_letPass 3 = .ok (.istore_n 3, 1) := by decide +kernel
theorem dX6_letPass_4 : decode cX6_letPass 4 = .ok (.iload_n 3, 1) := by decide +kernel
theorem dX6_letPass_5 : decode cX6_letPass 5 = .ok (.iload_n 1, 1) := by decide +kernel
theorem dX6_letPass_6 : decode cX6_letPass 6 = .ok (.if_icmp .ge 43, 3) := by decide +kernel
theorem dX6_letPass_9 : decode cX6_letPass 9 = .ok (.aload_n 0, 1) := by decide +kernel
theorem dX6_letPass_10 : decode cX6_letPass 10 = .ok (.invokevirtual 187, 3) := by decide +kernel
theorem dX6_letPass_13 : decode cX6_letPass 13 = .ok (.ifCond .eq 20, 3) := by decide +kernel
theorem dX6_letPass_16 : decode cX6_letPass 16 = .ok (.aload_n 0, 1) := by decide +kernel
theorem dX6_letPass_17 : decode cX6_letPass 17 = .ok (.getfield 12, 3) := by decide +kernel
theorem dX6_letPass_20 : decode cX6_letPass 20 = .ok (.dup, 1) := by decide +kernel
theorem dX6_letPass_21 : decode cX6_letPass 21 = .ok (.getfield 92, 3) := by decide +kernel
theorem dX6_letPass_24 : decode cX6_letPass 24 = .ok (.iload_n 1, 1) := by decide +kernel
theorem dX6_letPass_25 : decode cX6_letPass 25 = .ok (.iload_n 3, 1) := by decide +kernel
theorem dX6_letPass_26 : decode cX6_letPass 26 = .ok (.isub, 1) := by decide +kernel
theorem dX6_letPass_27 : decode cX6_letPass 27 = .ok (.iadd, 1) := by decide +kernel
theorem dX6_letPass_28 : decode cX6_letPass 28 = .ok (.putfield 92, 3) := by decide +kernel
theorem dX6_letPass_31 : decode cX6_letPass 31 = .ok (.iload_n 2, 1) := by decide +kernel
theorem dX6_letPass_32 : decode cX6_letPass 32 = .ok (.ireturn, 1) := by decide +kernel
theorem dX6_letPass_33 : decode cX6_letPass 33 = .ok (.aload_n 0, 1) := by decide +kernel
theorem dX6_letPass_34 : decode cX6_letPass 34 = .ok (.invokevirtual 190, 3) := by decide +kernel
theorem dX6_letPass_37 : decode cX6_letPass 37 = .ok (.ifCond .eq 6, 3) := by decide +kernel
theorem dX6_letPass_40 : decode cX6_letPass 40 = .ok (.iinc 2 1, 3) := by decide +kernel
theorem dX6_letPass_43 : decode cX6_letPass 43 = .ok (.iinc 3 1, 3) := by decide +kernel
theorem dX6_letPass_46 : decode cX6_letPass 46 = .ok (.goto (-42), 3) := by decide +kernel
theorem dX6_letPass_49 : decode cX6_letPass 49 = .ok (.iload_n 2, 1) := by decide +kernel
theorem dX6_letPass_50 : decode cX6_letPass 50 = .ok (.ireturn, 1) := by decide +kernel
theorem dX6_isIdle_0 : decode cX6_isIdle 0 = .ok (.aload_n 0, 1) := by decide +kernel
theorem dX6_isIdle_1 : decode cX6_isIdle 1 = .ok (.getfield 41, 3) := by decide +kernel
theorem dX6_isIdle_4 : decode cX6_isIdle 4 = .ok (.iconst (-1), 1) := by decide +kernel
theorem dX6_isIdle_5 : decode cX6_isIdle 5 = .ok (.if_icmp .ne 14, 3) := by decide +kernel
theorem dX6_isIdle_8 : decode cX6_isIdle 8 = .ok (.aload_n 0, 1) := by decide +kernel
theorem dX6_isIdle_9 : decode cX6_isIdle 9 = .ok (.getfield 89, 3) := by decide +kernel
theorem dX6_isIdle_12 : decode cX6_isIdle 12 = .ok (.ifCond .ne 7, 3) := by decide +kernel
theorem dX6_isIdle_15 : decode cX6_isIdle 15 = .ok (.iconst 1, 1) := by decide +kernel
theorem dX6_isIdle_16 : decode cX6_isIdle 16 = .ok (.goto 4, 3) := by decide +kernel
theorem dX6_isIdle_19 : decode cX6_isIdle 19 = .ok (.iconst 0, 1) := by decide +kernel
theorem dX6_isIdle_20 : decode cX6_isIdle 20 = .ok (.ireturn, 1) := by decide +kernel
theorem dX6_passOneMinute_0 : decode cX6_passOneMinute 0 = .ok (.aload_n 0, 1) := by decide +kernel
theorem dX6_passOneMinute_1 : decode cX6_passOneMinute 1 = .ok (.getfield 12, 3) := by decide +kernel
theorem dX6_passOneMinute_4 : decode cX6_passOneMinute 4 = .ok (.dup, 1) := by decide +kernel
theorem dX6_passOneMinute_5 : decode cX6_passOneMinute 5 = .ok (.getfield 92, 3) := by decide +kernel
theorem dX6_passOneMinute_8 : decode cX6_passOneMinute 8 = .ok (.iconst 1, 1) := by decide +kernel
theorem dX6_passOneMinute_9 : decode cX6_passOneMinute 9 = .ok (.iadd, 1) := by decide +kernel
theorem dX6_passOneMinute_10 : decode cX6_passOneMinute 10 = .ok (.putfield 92, 3) := by decide +kernel
theorem dX6_passOneMinute_13 : decode cX6_passOneMinute 13 = .ok (.aload_n 0, 1) := by decide +kernel
theorem dX6_passOneMinute_14 : decode cX6_passOneMinute 14 = .ok (.getfield 12, 3) := by decide +kernel
theorem dX6_passOneMinute_17 : decode cX6_passOneMinute 17 = .ok (.invokevirtual 233, 3) := by decide +kernel
theorem dX6_passOneMinute_20 : decode cX6_passOneMinute 20 = .ok (.ifCond .eq 8, 3) := by decide +kernel
theorem dX6_passOneMinute_23 : decode cX6_passOneMinute 23 = .ok (.aload_n 0, 1) := by decide +kernel
theorem dX6_passOneMinute_24 : decode cX6_passOneMinute 24 = .ok (.invokevirtual 236, 3) := by decide +kernel
theorem dX6_passOneMinute_27 : decode cX6_passOneMinute 27 = .ok (.ireturn, 1) := by decide +kernel
theorem dX6_passOneMinute_28 : decode cX6_passOneMinute 28 = .ok (.aload_n 0, 1) := by decide +kernel
theorem dX6_passOneMinute_29 : decode cX6_passOneMinute 29 = .ok (.getfield 12, 3) := by decide +kernel
theorem dX6_passOneMinute_32 : decode cX6_passOneMinute 32 = .ok (.invokevirtual 170, 3) := by decide +kernel
theorem dX6_passOneMinute_35 : decode cX6_passOneMinute 35 = .ok (.ifCond .ne 5, 3) := by decide +kernel
theorem dX6_passOneMinute_38 : decode cX6_passOneMinute 38 = .ok (.iconst 0, 1) := by decide +kernel
theorem dX6_passOneMinute_39 : decode cX6_passOneMinute 39 = .ok (.ireturn, 1) := by decide +kernel
theorem dX6_passOneMinute_40 : decode cX6_passOneMinute 40 = .ok (.aload_n 0, 1) := by decide +kernel
theorem dX6_passOneMinute_41 : decode cX6_passOneMinute 41 = .ok (.getfield 41, 3) := by decide +kernel
theorem dX6_passOneMinute_44 : decode cX6_passOneMinute 44 = .ok (.iconst (-1), 1) := by decide +kernel
theorem dX6_passOneMinute_45 : decode cX6_passOneMinute 45 = .ok (.if_icmp .ne 9, 3) := by decide +kernel
theorem dX6_passOneMinute_48 : decode cX6_passOneMinute 48 = .ok (.aload_n 0, 1) := by decide +kernel
theorem dX6_passOneMinute_49 : decode cX6_passOneMinute 49 = .ok (.invokevirtual 239, 3) := by decide +kernel
theorem dX6_passOneMinute_52 : decode cX6_passOneMinute 52 = .ok (.iconst 0, 1) := by decide +kernel
theorem dX6_passOneMinute_53 : decode cX6_passOneMinute 53 = .ok (.ireturn, 1) := by decide +kernel
theorem dX6_passOneMinute_54 : decode cX6_passOneMinute 54 = .ok (.aload_n 0, 1) := by decide +kernel
theorem dX6_passOneMinute_55 : decode cX6_passOneMinute 55 = .ok (.invokevirtual 242, 3) := by decide +kernel
theorem dX6_passOneMinute_58 : decode cX6_passOneMinute 58 = .ok (.istore_n 1, 1) := by decide +kernel
theorem dX6_passOneMinute_59 : decode cX6_passOneMinute 59 = .ok (.iload_n 1, 1) := by decide +kernel
theorem dX6_passOneMinute_60 : decode cX6_passOneMinute 60 = .ok (.iconst (-1), 1) := by decide +kernel
theorem dX6_passOneMinute_61 : decode cX6_passOneMinute 61 = .ok (.if_icmp .eq 10, 3) := by decide +kernel
theorem dX6_passOneMinute_64 : decode cX6_passOneMinute 64 = .ok (.aload_n 0, 1) := by decide +kernel
theorem dX6_passOneMinute_65 : decode cX6_passOneMinute 65 = .ok (.iload_n 1, 1) := by decide +kernel
theorem dX6_passOneMinute_66 : decode cX6_passOneMinute 66 = .ok (.invokevirtual 212, 3) := by decide +kernel
theorem dX6_passOneMinute_69 : decode cX6_passOneMinute 69 = .ok (.iconst 0, 1) := by decide +kernel
theorem dX6_passOneMinute_70 : decode cX6_passOneMinute 70 = .ok (.ireturn, 1) := by decide +kernel
theorem dX6_passOneMinute_71 : decode cX6_passOneMinute 71 = .ok (.aload_n 0, 1) := by decide +kernel
theorem dX6_passOneMinute_72 : decode cX6_passOneMinute 72 = .ok (.dup, 1) := by decide +kernel
theorem dX6_passOneMinute_73 : decode cX6_passOneMinute 73 = .ok (.getfield 50, 3) := by decide +kernel
theorem dX6_passOneMinute_76 : decode cX6_passOneMinute 76 = .ok (.iconst 1, 1) := by decide +kernel
theorem dX6_passOneMinute_77 : decode cX6_passOneMinute 77 = .ok (.iadd, 1) := by decide +kernel
theorem dX6_passOneMinute_78 : decode cX6_passOneMinute 78 = .ok (.putfield 50, 3) := by decide +kernel
theorem dX6_passOneMinute_81 : decode cX6_passOneMinute 81 = .ok (.aload_n 0, 1) := by decide +kernel
theorem dX6_passOneMinute_82 : decode cX6_passOneMinute 82 = .ok (.getfield 50, 3) := by decide +kernel
theorem dX6_passOneMinute_85 : decode cX6_passOneMinute 85 = .ok (.aload_n 0, 1) := by decide +kernel
theorem dX6_passOneMinute_86 : decode cX6_passOneMinute 86 = .ok (.getfield 18, 3) := by decide +kernel
theorem dX6_passOneMinute_89 : decode cX6_passOneMinute 89 = .ok (.if_icmp .ne 14, 3) := by decide +kernel
theorem dX6_passOneMinute_92 : decode cX6_passOneMinute 92 = .ok (.aload_n 0, 1) := by decide +kernel
theorem dX6_passOneMinute_93 : decode cX6_passOneMinute 93 = .ok (.invokevirtual 236, 3) := by decide +kernel
theorem dX6_passOneMinute_96 : decode cX6_passOneMinute 96 = .ok (.ifCond .eq 7, 3) := by decide +kernel
theorem dX6_passOneMinute_99 : decode cX6_passOneMinute 99 = .ok (.iconst 1, 1) := by decide +kernel
theorem dX6_passOneMinute_100 : decode cX6_passOneMinute 100 = .ok (.goto 4, 3) := by decide +kernel
theorem dX6_passOneMinute_103 : decode cX6_passOneMinute 103 = .ok (.iconst 0, 1) := by decide +kernel
theorem dX6_passOneMinute_104 : decode cX6_passOneMinute 104 = .ok (.ireturn, 1) := by decide +kernel
theorem dX6_openFirst_0 : decode cX6_openFirst 0 = .ok (.aload_n 0, 1) := by decide +kernel
theorem dX6_openFirst_1 : decode cX6_openFirst 1 = .ok (.getfield 89, 3) := by decide +kernel
theorem dX6_openFirst_4 : decode cX6_openFirst 4 = .ok (.ifCond .le 39, 3) := by decide +kernel
theorem dX6_openFirst_7 : decode cX6_openFirst 7 = .ok (.aload_n 0, 1) := by decide +kernel
theorem dX6_openFirst_8 : decode cX6_openFirst 8 = .ok (.aload_n 0, 1) := by decide +kernel
theorem dX6_openFirst_9 : decode cX6_openFirst 9 = .ok (.getfield 37, 3) := by decide +kernel
theorem dX6_openFirst_12 : decode cX6_openFirst 12 = .ok (.iconst 0, 1) := by decide +kernel
theorem dX6_openFirst_13 : decode cX6_openFirst 13 = .ok (.iaload, 1) := by decide +kernel
theorem dX6_openFirst_14 : decode cX6_openFirst 14 = .ok (.putfield 41, 3) := by decide +kernel
theorem dX6_openFirst_17 : decode cX6_openFirst 17 = .ok (.aload_n 0, 1) := by decide +kernel
theorem dX6_openFirst_18 : decode cX6_openFirst 18 = .ok (.iconst 0, 1) := by decide +kernel
theorem dX6_openFirst_19 : decode cX6_openFirst 19 = .ok (.putfield 50, 3) := by decide +kernel
theorem dX6_openFirst_22 : decode cX6_openFirst 22 = .ok (.aload_n 0, 1) := by decide +kernel
theorem dX6_openFirst_23 : decode cX6_openFirst 23 = .ok (.getfield 33, 3) := by decide +kernel
theorem dX6_openFirst_26 : decode cX6_openFirst 26 = .ok (.aload_n 0, 1) := by decide +kernel
theorem dX6_openFirst_27 : decode cX6_openFirst 27 = .ok (.getfield 41, 3) := by decide +kernel
theorem dX6_openFirst_30 : decode cX6_openFirst 30 = .ok (.aaload, 1) := by decide +kernel
theorem dX6_openFirst_31 : decode cX6_openFirst 31 = .ok (.iconst 1, 1) := by decide +kernel
theorem dX6_openFirst_32 : decode cX6_openFirst 32 = .ok (.putfield 102, 3) := by decide +kernel
theorem dX6_openFirst_35 : decode cX6_openFirst 35 = .ok (.aload_n 0, 1) := by decide +kernel
theorem dX6_openFirst_36 : decode cX6_openFirst 36 = .ok (.aload_n 0, 1) := by decide +kernel
theorem dX6_openFirst_37 : decode cX6_openFirst 37 = .ok (.getfield 41, 3) := by decide +kernel
theorem dX6_openFirst_40 : decode cX6_openFirst 40 = .ok (.invokevirtual 153, 3) := by decide +kernel
theorem dX6_openFirst_43 : decode cX6_openFirst 43 = .ok (.return_, 1) := by decide +kernel
theorem dX6_closeBarrel_0 : decode cX6_closeBarrel 0 = .ok (.aload_n 0, 1) := by decide +kernel
theorem dX6_closeBarrel_1 : decode cX6_closeBarrel 1 = .ok (.getfield 41, 3) := by decide +kernel
theorem dX6_closeBarrel_4 : decode cX6_closeBarrel 4 = .ok (.iconst (-1), 1) := by decide +kernel
theorem dX6_closeBarrel_5 : decode cX6_closeBarrel 5 = .ok (.if_icmp .ne 5, 3) := by decide +kernel
theorem dX6_closeBarrel_8 : decode cX6_closeBarrel 8 = .ok (.iconst 0, 1) := by decide +kernel
theorem dX6_closeBarrel_9 : decode cX6_closeBarrel 9 = .ok (.ireturn, 1) := by decide +kernel
theorem dX6_closeBarrel_10 : decode cX6_closeBarrel 10 = .ok (.aload_n 0, 1) := by decide +kernel
theorem dX6_closeBarrel_11 : decode cX6_closeBarrel 11 = .ok (.getfield 47, 3) := by decide +kernel
theorem dX6_closeBarrel_14 : decode cX6_closeBarrel 14 = .ok (.iconst (-1), 1) := by decide +kernel
theorem dX6_closeBarrel_15 : decode cX6_closeBarrel 15 = .ok (.if_icmp .eq 7, 3) := by decide +kernel
theorem dX6_closeBarrel_18 : decode cX6_closeBarrel 18 = .ok (.iconst 1, 1) := by decide +kernel
theorem dX6_closeBarrel_19 : decode cX6_closeBarrel 19 = .ok (.goto 4, 3) := by decide +kernel
theorem dX6_closeBarrel_22 : decode cX6_closeBarrel 22 = .ok (.iconst 0, 1) := by decide +kernel
theorem dX6_closeBarrel_23 : decode cX6_closeBarrel 23 = .ok (.istore_n 1, 1) := by decide +kernel
theorem dX6_closeBarrel_24 : decode cX6_closeBarrel 24 = .ok (.iload_n 1, 1) := by decide +kernel
theorem dX6_closeBarrel_25 : decode cX6_closeBarrel 25 = .ok (.ifCond .eq 28, 3) := by decide +kernel
theorem dX6_closeBarrel_28 : decode cX6_closeBarrel 28 = .ok (.aload_n 0, 1) := by decide +kernel
theorem dX6_closeBarrel_29 : decode cX6_closeBarrel 29 = .ok (.aload_n 0, 1) := by decide +kernel
theorem dX6_closeBarrel_30 : decode cX6_closeBarrel 30 = .ok (.getfield 33, 3) := by decide +kernel
theorem dX6_closeBarrel_33 : decode cX6_closeBarrel 33 = .ok (.aload_n 0, 1) := by decide +kernel
theorem dX6_closeBarrel_34 : decode cX6_closeBarrel 34 = .ok (.getfield 41, 3) := by decide +kernel
theorem dX6_closeBarrel_37 : decode cX6_closeBarrel 37 = .ok (.aaload, 1) := by decide +kernel
theorem dX6_closeBarrel_38 : decode cX6_closeBarrel 38 = .ok (.aload_n 0, 1) := by decide +kernel
theorem dX6_closeBarrel_39 : decode cX6_closeBarrel 39 = .ok (.getfield 27, 3) := by decide +kernel
theorem dX6_closeBarrel_42 : decode cX6_closeBarrel 42 = .ok (.aload_n 0, 1) := by decide +kernel
theorem dX6_closeBarrel_43 : decode cX6_closeBarrel 43 = .ok (.getfield 47, 3) := by decide +kernel
theorem dX6_closeBarrel_46 : decode cX6_closeBarrel 46 = .ok (.aaload, 1) := by decide +kernel
theorem dX6_closeBarrel_47 : decode cX6_closeBarrel 47 = .ok (.invokevirtual 245, 3) := by decide +kernel
theorem dX6_closeBarrel_50 : decode cX6_closeBarrel 50 = .ok (.goto 11, 3) := by decide +kernel
theorem dX6_closeBarrel_53 : decode cX6_closeBarrel 53 = .ok (.aload_n 0, 1) := by decide +kernel
theorem dX6_closeBarrel_54 : decode cX6_closeBarrel 54 = .ok (.aload_n 0, 1) := by decide +kernel
theorem dX6_closeBarrel_55 : decode cX6_closeBarrel 55 = .ok (.getfield 41, 3) := by decide +kernel
theorem dX6_closeBarrel_58 : decode cX6_closeBarrel 58 = .ok (.invokevirtual 249, 3) := by decide +kernel
theorem dX6_closeBarrel_61 : decode cX6_closeBarrel 61 = .ok (.aload_n 0, 1) := by decide +kernel
theorem dX6_closeBarrel_62 : decode cX6_closeBarrel 62 = .ok (.invokevirtual 95, 3) := by decide +kernel
theorem dX6_closeBarrel_65 : decode cX6_closeBarrel 65 = .ok (.iload_n 1, 1) := by decide +kernel
theorem dX6_closeBarrel_66 : decode cX6_closeBarrel 66 = .ok (.ireturn, 1) := by decide +kernel
theorem dX6_sell_0 : decode cX6_sell 0 = .ok (.aload_n 0, 1) := by decide +kernel
theorem dX6_sell_1 : decode cX6_sell 1 = .ok (.aload_n 0, 1) := by decide +kernel
theorem dX6_sell_2 : decode cX6_sell 2 = .ok (.getfield 44, 3) := by decide +kernel
theorem dX6_sell_5 : decode cX6_sell 5 = .ok (.invokevirtual 177, 3) := by decide +kernel
theorem dX6_sell_8 : decode cX6_sell 8 = .ok (.istore_n 3, 1) := by decide +kernel
theorem dX6_sell_9 : decode cX6_sell 9 = .ok (.aload_n 2, 1) := by decide +kernel
theorem dX6_sell_10 : decode cX6_sell 10 = .ok (.dup, 1) := by decide +kernel
theorem dX6_sell_11 : decode cX6_sell 11 = .ok (.getfield 160, 3) := by decide +kernel
theorem dX6_sell_14 : decode cX6_sell 14 = .ok (.iload_n 3, 1) := by decide +kernel
theorem dX6_sell_15 : decode cX6_sell 15 = .ok (.isub, 1) := by decide +kernel
theorem dX6_sell_16 : decode cX6_sell 16 = .ok (.putfield 160, 3) := by decide +kernel
theorem dX6_sell_19 : decode cX6_sell 19 = .ok (.aload_n 2, 1) := by decide +kernel
theorem dX6_sell_20 : decode cX6_sell 20 = .ok (.dup, 1) := by decide +kernel
theorem dX6_sell_21 : decode cX6_sell 21 = .ok (.getfield 252, 3) := by decide +kernel
theorem dX6_sell_24 : decode cX6_sell 24 = .ok (.iconst 1, 1) := by decide +kernel
theorem dX6_sell_25 : decode cX6_sell 25 = .ok (.iadd, 1) := by decide +kernel
theorem dX6_sell_26 : decode cX6_sell 26 = .ok (.putfield 252, 3) := by decide +kernel
theorem dX6_sell_29 : decode cX6_sell 29 = .ok (.aload_n 0, 1) := by decide +kernel
theorem dX6_sell_30 : decode cX6_sell 30 = .ok (.dup, 1) := by decide +kernel
theorem dX6_sell_31 : decode cX6_sell 31 = .ok (.getfield 62, 3) := by decide +kernel
theorem dX6_sell_34 : decode cX6_sell 34 = .ok (.aload_n 0, 1) := by decide +kernel
theorem dX6_sell_35 : decode cX6_sell 35 = .ok (.getfield 44, 3) := by decide +kernel
theorem dX6_sell_38 : decode cX6_sell 38 = .ok (.iadd, 1) := by decide +kernel
theorem dX6_sell_39 : decode cX6_sell 39 = .ok (.putfield 62, 3) := by decide +kernel
theorem dX6_sell_42 : decode cX6_sell 42 = .ok (.aload_n 0, 1) := by decide +kernel
theorem dX6_sell_43 : decode cX6_sell 43 = .ok (.dup, 1) := by decide +kernel
theorem dX6_sell_44 : decode cX6_sell 44 = .ok (.getfield 65, 3) := by decide +kernel
theorem dX6_sell_47 : decode cX6_sell 47 = .ok (.iload_n 3, 1) := by decide +kernel
theorem dX6_sell_48 : decode cX6_sell 48 = .ok (.aload_n 0, 1) := by decide +kernel
theorem dX6_sell_49 : decode cX6_sell 49 = .ok (.getfield 44, 3) := by decide +kernel
theorem dX6_sell_52 : decode cX6_sell 52 = .ok (.isub, 1) := by decide +kernel
theorem dX6_sell_53 : decode cX6_sell 53 = .ok (.iadd, 1) := by decide +kernel
theorem dX6_sell_54 : decode cX6_sell 54 = .ok (.putfield 65, 3) := by decide +kernel
theorem dX6_sell_57 : decode cX6_sell 57 = .ok (.aload_n 1, 1) := by decide +kernel
theorem dX6_sell_58 : decode cX6_sell 58 = .ok (.iconst 2, 1) := by decide +kernel
theorem dX6_sell_59 : decode cX6_sell 59 = .ok (.putfield 102, 3) := by decide +kernel
theorem dX6_sell_62 : decode cX6_sell 62 = .ok (.aload_n 1, 1) := by decide +kernel
theorem dX6_sell_63 : decode cX6_sell 63 = .ok (.aload_n 0, 1) := by decide +kernel
theorem dX6_sell_64 : decode cX6_sell 64 = .ok (.getfield 47, 3) := by decide +kernel
theorem dX6_sell_67 : decode cX6_sell 67 = .ok (.putfield 255, 3) := by decide +kernel
theorem dX6_sell_70 : decode cX6_sell 70 = .ok (.aload_n 1, 1) := by decide +kernel
theorem dX6_sell_71 : decode cX6_sell 71 = .ok (.aload_n 0, 1) := by decide +kernel
theorem dX6_sell_72 : decode cX6_sell 72 = .ok (.getfield 44, 3) := by decide +kernel
theorem dX6_sell_75 : decode cX6_sell 75 = .ok (.putfield 258, 3) := by decide +kernel
theorem dX6_sell_78 : decode cX6_sell 78 = .ok (.return_, 1) := by decide +kernel
theorem dX6_sendBack_0 : decode cX6_sendBack 0 = .ok (.aload_n 0, 1) := by decide +kernel
theorem dX6_sendBack_1 : decode cX6_sendBack 1 = .ok (.getfield 33, 3) := by decide +kernel
theorem dX6_sendBack_4 : decode cX6_sendBack 4 = .ok (.iload_n 1, 1) := by decide +kernel
theorem dX6_sendBack_5 : decode cX6_sendBack 5 = .ok (.aaload, 1) := by decide +kernel
theorem dX6_sendBack_6 : decode cX6_sendBack 6 = .ok (.astore_n 2, 1) := by decide +kernel
theorem dX6_sendBack_7 : decode cX6_sendBack 7 = .ok (.aload_n 2, 1) := by decide +kernel
theorem dX6_sendBack_8 : decode cX6_sendBack 8 = .ok (.dup, 1) := by decide +kernel
theorem dX6_sendBack_9 : decode cX6_sendBack 9 = .ok (.getfield 261, 3) := by decide +kernel
theorem dX6_sendBack_12 : decode cX6_sendBack 12 = .ok (.iconst 1, 1) := by decide +kernel
theorem dX6_sendBack_13 : decode cX6_sendBack 13 = .ok (.iadd, 1) := by decide +kernel
theorem dX6_sendBack_14 : decode cX6_sendBack 14 = .ok (.putfield 261, 3) := by decide +kernel
theorem dX6_sendBack_17 : decode cX6_sendBack 17 = .ok (.aload_n 2, 1) := by decide +kernel
theorem dX6_sendBack_18 : decode cX6_sendBack 18 = .ok (.getfield 261, 3) := by decide +kernel
theorem dX6_sendBack_21 : decode cX6_sendBack 21 = .ok (.iconst 3, 1) := by decide +kernel
theorem dX6_sendBack_22 : decode cX6_sendBack 22 = .ok (.if_icmp .ne 11, 3) := by decide +kernel
theorem dX6_sendBack_25 : decode cX6_sendBack 25 = .ok (.aload_n 2, 1) := by decide +kernel
theorem dX6_sendBack_26 : decode cX6_sendBack 26 = .ok (.iconst 3, 1) := by decide +kernel
theorem dX6_sendBack_27 : decode cX6_sendBack 27 = .ok (.putfield 102, 3) := by decide +kernel
theorem dX6_sendBack_30 : decode cX6_sendBack 30 = .ok (.goto 13, 3) := by decide +kernel
theorem dX6_sendBack_33 : decode cX6_sendBack 33 = .ok (.aload_n 2, 1) := by decide +kernel
theorem dX6_sendBack_34 : decode cX6_sendBack 34 = .ok (.iconst 0, 1) := by decide +kernel
theorem dX6_sendBack_35 : decode cX6_sendBack 35 = .ok (.putfield 102, 3) := by decide +kernel
theorem dX6_sendBack_38 : decode cX6_sendBack 38 = .ok (.aload_n 0, 1) := by decide +kernel
theorem dX6_sendBack_39 : decode cX6_sendBack 39 = .ok (.iload_n 1, 1) := by decide +kernel
theorem dX6_sendBack_40 : decode cX6_sendBack 40 = .ok (.invokevirtual 127, 3) := by decide +kernel
theorem dX6_sendBack_43 : decode cX6_sendBack 43 = .ok (.return_, 1) := by decide +kernel
theorem dX6_endBidding_0 : decode cX6_endBidding 0 = .ok (.aload_n 0, 1) := by decide +kernel
theorem dX6_endBidding_1 : decode cX6_endBidding 1 = .ok (.iconst (-1), 1) := by decide +kernel
theorem dX6_endBidding_2 : decode cX6_endBidding 2 = .ok (.putfield 41, 3) := by decide +kernel
theorem dX6_endBidding_5 : decode cX6_endBidding 5 = .ok (.aload_n 0, 1) := by decide +kernel
theorem dX6_endBidding_6 : decode cX6_endBidding 6 = .ok (.iconst (-1), 1) := by decide +kernel
theorem dX6_endBidding_7 : decode cX6_endBidding 7 = .ok (.putfield 44, 3) := by decide +kernel
theorem dX6_endBidding_10 : decode cX6_endBidding 10 = .ok (.aload_n 0, 1) := by decide +kernel
theorem dX6_endBidding_11 : decode cX6_endBidding 11 = .ok (.iconst (-1), 1) := by decide +kernel
theorem dX6_endBidding_12 : decode cX6_endBidding 12 = .ok (.putfield 47, 3) := by decide +kernel
theorem dX6_endBidding_15 : decode cX6_endBidding 15 = .ok (.aload_n 0, 1) := by decide +kernel
theorem dX6_endBidding_16 : decode cX6_endBidding 16 = .ok (.iconst (-1), 1) := by decide +kernel
theorem dX6_endBidding_17 : decode cX6_endBidding 17 = .ok (.putfield 50, 3) := by decide +kernel
theorem dX6_endBidding_20 : decode cX6_endBidding 20 = .ok (.return_, 1) := by decide +kernel
theorem dX6_enqueue_0 : decode cX6_enqueue 0 = .ok (.aload_n 0, 1) := by decide +kernel
theorem dX6_enqueue_1 : decode cX6_enqueue 1 = .ok (.getfield 89, 3) := by decide +kernel
theorem dX6_enqueue_4 : decode cX6_enqueue 4 = .ok (.bipush 20, 2) := by decide +kernel
theorem dX6_enqueue_6 : decode cX6_enqueue 6 = .ok (.if_icmp .ge 23, 3) := by decide +kernel
theorem dX6_enqueue_9 : decode cX6_enqueue 9 = .ok (.aload_n 0, 1) := by decide +kernel
theorem dX6_enqueue_10 : decode cX6_enqueue 10 = .ok (.getfield 37, 3) := by decide +kernel
theorem dX6_enqueue_13 : decode cX6_enqueue 13 = .ok (.aload_n 0, 1) := by decide +kernel
theorem dX6_enqueue_14 : decode cX6_enqueue 14 = .ok (.getfield 89, 3) := by decide +kernel
theorem dX6_enqueue_17 : decode cX6_enqueue 17 = .ok (.iload_n 1, 1) := by decide +kernel
theorem dX6_enqueue_18 : decode cX6_enqueue 18 = .ok (.iastore, 1) := by decide +kernel
theorem dX6_enqueue_19 : decode cX6_enqueue 19 = .ok (.aload_n 0, 1) := by decide +kernel
theorem dX6_enqueue_20 : decode cX6_enqueue 20 = .ok (.dup, 1) := by decide +kernel
theorem dX6_enqueue_21 : decode cX6_enqueue 21 = .ok (.getfield 89, 3) := by decide +kernel
theorem dX6_enqueue_24 : decode cX6_enqueue 24 = .ok (.iconst 1, 1) := by decide +kernel
theorem dX6_enqueue_25 : decode cX6_enqueue 25 = .ok (.iadd, 1) := by decide +kernel
theorem dX6_enqueue_26 : decode cX6_enqueue 26 = .ok (.putfield 89, 3) := by decide +kernel
theorem dX6_enqueue_29 : decode cX6_enqueue 29 = .ok (.return_, 1) := by decide +kernel
theorem dX6_dequeue_0 : decode cX6_dequeue 0 = .ok (.iconst 0, 1) := by decide +kernel
theorem dX6_dequeue_1 : decode cX6_dequeue 1 = .ok (.istore_n 2, 1) := by decide +kernel
theorem dX6_dequeue_2 : decode cX6_dequeue 2 = .ok (.iconst 0, 1) := by decide +kernel
theorem dX6_dequeue_3 : decode cX6_dequeue 3 = .ok (.istore_n 3, 1) := by decide +kernel
theorem dX6_dequeue_4 : decode cX6_dequeue 4 = .ok (.iload_n 3, 1) := by decide +kernel
theorem dX6_dequeue_5 : decode cX6_dequeue 5 = .ok (.aload_n 0, 1) := by decide +kernel
theorem dX6_dequeue_6 : decode cX6_dequeue 6 = .ok (.getfield 89, 3) := by decide +kernel
theorem dX6_dequeue_9 : decode cX6_dequeue 9 = .ok (.if_icmp .ge 34, 3) := by decide +kernel
theorem dX6_dequeue_12 : decode cX6_dequeue 12 = .ok (.aload_n 0, 1) := by decide +kernel
theorem dX6_dequeue_13 : decode cX6_dequeue 13 = .ok (.getfield 37, 3) := by decide +kernel
theorem dX6_dequeue_16 : decode cX6_dequeue 16 = .ok (.iload_n 3, 1) := by decide +kernel
theorem dX6_dequeue_17 : decode cX6_dequeue 17 = .ok (.iaload, 1) := by decide +kernel
theorem dX6_dequeue_18 : decode cX6_dequeue 18 = .ok (.iload_n 1, 1) := by decide +kernel
theorem dX6_dequeue_19 : decode cX6_dequeue 19 = .ok (.if_icmp .eq 18, 3) := by decide +kernel
theorem dX6_dequeue_22 : decode cX6_dequeue 22 = .ok (.aload_n 0, 1) := by decide +kernel
theorem dX6_dequeue_23 : decode cX6_dequeue 23 = .ok (.getfield 37, 3) := by decide +kernel
theorem dX6_dequeue_26 : decode cX6_dequeue 26 = .ok (.iload_n 2, 1) := by decide +kernel
theorem dX6_dequeue_27 : decode cX6_dequeue 27 = .ok (.aload_n 0, 1) := by decide +kernel
theorem dX6_dequeue_28 : decode cX6_dequeue 28 = .ok (.getfield 37, 3) := by decide +kernel
theorem dX6_dequeue_31 : decode cX6_dequeue 31 = .ok (.iload_n 3, 1) := by decide +kernel
theorem dX6_dequeue_32 : decode cX6_dequeue 32 = .ok (.iaload, 1) := by decide +kernel
theorem dX6_dequeue_33 : decode cX6_dequeue 33 = .ok (.iastore, 1) := by decide +kernel
theorem dX6_dequeue_34 : decode cX6_dequeue 34 = .ok (.iinc 2 1, 3) := by decide +kernel
theorem dX6_dequeue_37 : decode cX6_dequeue 37 = .ok (.iinc 3 1, 3) := by decide +kernel
theorem dX6_dequeue_40 : decode cX6_dequeue 40 = .ok (.goto (-36), 3) := by decide +kernel
theorem dX6_dequeue_43 : decode cX6_dequeue 43 = .ok (.aload_n 0, 1) := by decide +kernel
theorem dX6_dequeue_44 : decode cX6_dequeue 44 = .ok (.iload_n 2, 1) := by decide +kernel
theorem dX6_dequeue_45 : decode cX6_dequeue 45 = .ok (.putfield 89, 3) := by decide +kernel
theorem dX6_dequeue_48 : decode cX6_dequeue 48 = .ok (.return_, 1) := by decide +kernel
theorem dX7_init_0 : decode cX7_init 0 = .ok (.aload_n 0, 1) := by decide +kernel
theorem dX7_init_1 : decode cX7_init 1 = .ok (.invokespecial 3, 3) := by decide +kernel
theorem dX7_init_4 : decode cX7_init 4 = .ok (.aload_n 0, 1) := by decide +kernel
theorem dX7_init_5 : decode cX7_init 5 = .ok (.new 9, 3) := by decide +kernel
theorem dX7_init_8 : decode cX7_init 8 = .ok (.dup, 1) := by decide +kernel
theorem dX7_init_9 : decode cX7_init 9 = .ok (.invokespecial 11, 3) := by decide +kernel
theorem dX7_init_12 : decode cX7_init 12 = .ok (.putfield 12, 3) := by decide +kernel
theorem dX7_init_15 : decode cX7_init 15 = .ok (.aload_n 0, 1) := by decide +kernel
theorem dX7_init_16 : decode cX7_init 16 = .ok (.bipush 20, 2) := by decide +kernel
theorem dX7_init_18 : decode cX7_init 18 = .ok (.anewarray 18, 3) := by decide +kernel
theorem dX7_init_21 : decode cX7_init 21 = .ok (.putfield 20, 3) := by decide +kernel
theorem dX7_init_24 : decode cX7_init 24 = .ok (.aload_n 0, 1) := by decide +kernel
theorem dX7_init_25 : decode cX7_init 25 = .ok (.new 18, 3) := by decide +kernel
theorem dX7_init_28 : decode cX7_init 28 = .ok (.dup, 1) := by decide +kernel
theorem dX7_init_29 : decode cX7_init 29 = .ok (.invokespecial 24, 3) := by decide +kernel
theorem dX7_init_32 : decode cX7_init 32 = .ok (.putfield 25, 3) := by decide +kernel
theorem dX7_init_35 : decode cX7_init 35 = .ok (.aload_n 0, 1) := by decide +kernel
theorem dX7_init_36 : decode cX7_init 36 = .ok (.iconst (-1), 1) := by decide +kernel
theorem dX7_init_37 : decode cX7_init 37 = .ok (.putfield 29, 3) := by decide +kernel
theorem dX7_init_40 : decode cX7_init 40 = .ok (.iconst 0, 1) := by decide +kernel
theorem dX7_init_41 : decode cX7_init 41 = .ok (.istore_n 1, 1) := by decide +kernel
theorem dX7_init_42 : decode cX7_init 42 = .ok (.iload_n 1, 1) := by decide +kernel
theorem dX7_init_43 : decode cX7_init 43 = .ok (.bipush 20, 2) := by decide +kernel
theorem dX7_init_45 : decode cX7_init 45 = .ok (.if_icmp .ge 22, 3) := by decide +kernel
theorem dX7_init_48 : decode cX7_init 48 = .ok (.aload_n 0, 1) := by decide +kernel
theorem dX7_init_49 : decode cX7_init 49 = .ok (.getfield 20, 3) := by decide +kernel
theorem dX7_init_52 : decode cX7_init 52 = .ok (.iload_n 1, 1) := by decide +kernel
theorem dX7_init_53 : decode cX7_init 53 = .ok (.new 18, 3) := by decide +kernel
theorem dX7_init_56 : decode cX7_init 56 = .ok (.dup, 1) := by decide +kernel
theorem dX7_init_57 : decode cX7_init 57 = .ok (.invokespecial 24, 3) := by decide +kernel
theorem dX7_init_60 : decode cX7_init 60 = .ok (.aastore, 1) := by decide +kernel
theorem dX7_init_61 : decode cX7_init 61 = .ok (.iinc 1 1, 3) := by decide +kernel
theorem dX7_init_64 : decode cX7_init 64 = .ok (.goto (-22), 3) := by decide +kernel
theorem dX7_init_67 : decode cX7_init 67 = .ok (.return_, 1) := by decide +kernel
theorem dX7_readSetup_0 : decode cX7_readSetup 0 = .ok (.aload_n 0, 1) := by decide +kernel
theorem dX7_readSetup_1 : decode cX7_readSetup 1 = .ok (.invokevirtual 33, 3) := by decide +kernel
theorem dX7_readSetup_4 : decode cX7_readSetup 4 = .ok (.aload_n 1, 1) := by decide +kernel
theorem dX7_readSetup_5 : decode cX7_readSetup 5 = .ok (.invokevirtual 36, 3) := by decide +kernel
theorem dX7_readSetup_8 : decode cX7_readSetup 8 = .ok (.aload_n 0, 1) := by decide +kernel
theorem dX7_readSetup_9 : decode cX7_readSetup 9 = .ok (.aload_n 1, 1) := by decide +kernel
theorem dX7_readSetup_10 : decode cX7_readSetup 10 = .ok (.invokevirtual 41, 3) := by decide +kernel
theorem dX7_readSetup_13 : decode cX7_readSetup 13 = .ok (.ifCond .eq 41, 3) := by decide +kernel
theorem dX7_readSetup_16 : decode cX7_readSetup 16 = .ok (.aload_n 0, 1) := by decide +kernel
theorem dX7_readSetup_17 : decode cX7_readSetup 17 = .ok (.aload_n 1, 1) := by decide +kernel
theorem dX7_readSetup_18 : decode cX7_readSetup 18 = .ok (.invokevirtual 45, 3) := by decide +kernel
theorem dX7_readSetup_21 : decode cX7_readSetup 21 = .ok (.ifCond .eq 33, 3) := by decide +kernel
theorem dX7_readSetup_24 : decode cX7_readSetup 24 = .ok (.aload_n 0, 1) := by decide +kernel
theorem dX7_readSetup_25 : decode cX7_readSetup 25 = .ok (.aload_n 1, 1) := by decide +kernel
theorem dX7_readSetup_26 : decode cX7_readSetup 26 = .ok (.invokevirtual 48, 3) := by decide +kernel
theorem dX7_readSetup_29 : decode cX7_readSetup 29 = .ok (.ifCond .eq 25, 3) := by decide +kernel
theorem dX7_readSetup_32 : decode cX7_readSetup 32 = .ok (.aload_n 0, 1) := by decide +kernel
theorem dX7_readSetup_33 : decode cX7_readSetup 33 = .ok (.getfield 12, 3) := by decide +kernel
theorem dX7_readSetup_36 : decode cX7_readSetup 36 = .ok (.getfield 51, 3) := by decide +kernel
theorem dX7_readSetup_39 : decode cX7_readSetup 39 = .ok (.ifCond .eq 11, 3) := by decide +kernel
theorem dX7_readSetup_42 : decode cX7_readSetup 42 = .ok (.aload_n 0, 1) := by decide +kernel
theorem dX7_readSetup_43 : decode cX7_readSetup 43 = .ok (.iconst 1, 1) := by decide +kernel
theorem dX7_readSetup_44 : decode cX7_readSetup 44 = .ok (.invokevirtual 54, 3) := by decide +kernel
theorem dX7_readSetup_47 : decode cX7_readSetup 47 = .ok (.ifCond .eq 7, 3) := by decide +kernel
theorem dX7_readSetup_50 : decode cX7_readSetup 50 = .ok (.iconst 1, 1) := by decide +kernel
theorem dX7_readSetup_51 : decode cX7_readSetup 51 = .ok (.goto 4, 3) := by decide +kernel
theorem dX7_readSetup_54 : decode cX7_readSetup 54 = .ok (.iconst 0, 1) := by decide +kernel
theorem dX7_readSetup_55 : decode cX7_readSetup 55 = .ok (.ireturn, 1) := by decide +kernel
theorem dX7_begin_0 : decode cX7_begin 0 = .ok (.aload_n 0, 1) := by decide +kernel
theorem dX7_begin_1 : decode cX7_begin 1 = .ok (.iconst 0, 1) := by decide +kernel
theorem dX7_begin_2 : decode cX7_begin 2 = .ok (.putfield 80, 3) := by decide +kernel
theorem dX7_begin_5 : decode cX7_begin 5 = .ok (.aload_n 0, 1) := by decide +kernel
theorem dX7_begin_6 : decode cX7_begin 6 = .ok (.iconst (-1), 1) := by decide +kernel
theorem dX7_begin_7 : decode cX7_begin 7 = .ok (.putfield 29, 3) := by decide +kernel
theorem dX7_begin_10 : decode cX7_begin 10 = .ok (.aload_n 0, 1) := by decide +kernel
theorem dX7_begin_11 : decode cX7_begin 11 = .ok (.getfield 12, 3) := by decide +kernel
theorem dX7_begin_14 : decode cX7_begin 14 = .ok (.invokevirtual 83, 3) := by decide +kernel
theorem dX7_begin_17 : decode cX7_begin 17 = .ok (.return_, 1) := by decide +kernel
theorem dX7_readMarket_0 : decode cX7_readMarket 0 = .ok (.aload_n 0, 1) := by decide +kernel
theorem dX7_readMarket_1 : decode cX7_readMarket 1 = .ok (.ldc 86, 2) := by decide +kernel
theorem dX7_readMarket_3 : decode cX7_readMarket 3 = .ok (.invokevirtual 88, 3) := by decide +kernel
theorem dX7_readMarket_6 : decode cX7_readMarket 6 = .ok (.ifCond .eq 13, 3) := by decide +kernel
theorem dX7_readMarket_9 : decode cX7_readMarket 9 = .ok (.aload_n 0, 1) := by decide +kernel
theorem dX7_readMarket_10 : decode cX7_readMarket 10 = .ok (.iconst 5, 1) := by decide +kernel
theorem dX7_readMarket_11 : decode cX7_readMarket 11 = .ok (.bipush 60, 2) := by decide +kernel
theorem dX7_readMarket_13 : decode cX7_readMarket 13 = .ok (.invokevirtual 92, 3) := by decide +kernel
theorem dX7_readMarket_16 : decode cX7_readMarket 16 = .ok (.ifCond .ne 5, 3) := by decide +kernel
theorem dX7_readMarket_19 : decode cX7_readMarket 19 = .ok (.iconst 0, 1) := by decide +kernel
theorem dX7_readMarket_20 : decode cX7_readMarket 20 = .ok (.ireturn, 1) := by decide +kernel
theorem dX7_readMarket_21 : decode cX7_readMarket 21 = .ok (.aload_n 1, 1) := by decide +kernel
theorem dX7_readMarket_22 : decode cX7_readMarket 22 = .ok (.getfield 96, 3) := by decide +kernel
theorem dX7_readMarket_25 : decode cX7_readMarket 25 = .ok (.aload_n 0, 1) := by decide +kernel
theorem dX7_readMarket_26 : decode cX7_readMarket 26 = .ok (.getfield 100, 3) := by decide +kernel
theorem dX7_readMarket_29 : decode cX7_readMarket 29 = .ok (.putfield 103, 3) := by decide +kernel
theorem dX7_readMarket_32 : decode cX7_readMarket 32 = .ok (.aload_n 0, 1) := by decide +kernel
theorem dX7_readMarket_33 : decode cX7_readMarket 33 = .ok (.iconst 1, 1) := by decide +kernel
theorem dX7_readMarket_34 : decode cX7_readMarket 34 = .ok (.aload_n 1, 1) := by decide +kernel
theorem dX7_readMarket_35 : decode cX7_readMarket 35 = .ok (.getfield 96, 3) := by decide +kernel
theorem dX7_readMarket_38 : decode cX7_readMarket 38 = .ok (.getfield 103, 3) := by decide +kernel
theorem dX7_readMarket_41 : decode cX7_readMarket 41 = .ok (.invokevirtual 92, 3) := by decide +kernel
theorem dX7_readMarket_44 : decode cX7_readMarket 44 = .ok (.ifCond .ne 5, 3) := by decide +kernel
theorem dX7_readMarket_47 : decode cX7_readMarket 47 = .ok (.iconst 0, 1) := by decide +kernel
theorem dX7_readMarket_48 : decode cX7_readMarket 48 = .ok (.ireturn, 1) := by decide +kernel
theorem dX7_readMarket_49 : decode cX7_readMarket 49 = .ok (.aload_n 1, 1) := by decide +kernel
theorem dX7_readMarket_50 : decode cX7_readMarket 50 = .ok (.getfield 96, 3) := by decide +kernel
theorem dX7_readMarket_53 : decode cX7_readMarket 53 = .ok (.aload_n 0, 1) := by decide +kernel
theorem dX7_readMarket_54 : decode cX7_readMarket 54 = .ok (.getfield 100, 3) := by decide +kernel
theorem dX7_readMarket_57 : decode cX7_readMarket 57 = .ok (.putfield 108, 3) := by decide +kernel
theorem dX7_readMarket_60 : decode cX7_readMarket 60 = .ok (.aload_n 0, 1) := by decide +kernel
theorem dX7_readMarket_61 : decode cX7_readMarket 61 = .ok (.iconst 1, 1) := by decide +kernel
theorem dX7_readMarket_62 : decode cX7_readMarket 62 = .ok (.bipush 9, 2) := by decide +kernel
theorem dX7_readMarket_64 : decode cX7_readMarket 64 = .ok (.invokevirtual 92, 3) := by decide +kernel
theorem dX7_readMarket_67 : decode cX7_readMarket 67 = .ok (.ifCond .ne 5, 3) := by decide +kernel
theorem dX7_readMarket_70 : decode cX7_readMarket 70 = .ok (.iconst 0, 1) := by decide +kernel
theorem dX7_readMarket_71 : decode cX7_readMarket 71 = .ok (.ireturn, 1) := by decide +kernel
theorem dX7_readMarket_72 : decode cX7_readMarket 72 = .ok (.aload_n 1, 1) := by decide +kernel
theorem dX7_readMarket_73 : decode cX7_readMarket 73 = .ok (.aload_n 0, 1) := by decide +kernel
theorem dX7_readMarket_74 : decode cX7_readMarket 74 = .ok (.getfield 100, 3) := by decide +kernel
theorem dX7_readMarket_77 : decode cX7_readMarket 77 = .ok (.putfield 111, 3) := by decide +kernel
theorem dX7_readMarket_80 : decode cX7_readMarket 80 = .ok (.aload_n 0, 1) := by decide +kernel
theorem dX7_readMarket_81 : decode cX7_readMarket 81 = .ok (.iconst 1, 1) := by decide +kernel
theorem dX7_readMarket_82 : decode cX7_readMarket 82 = .ok (.bipush 50, 2) := by decide +kernel
theorem dX7_readMarket_84 : decode cX7_readMarket 84 = .ok (.invokevirtual 92, 3) := by decide +kernel
theorem dX7_readMarket_87 : decode cX7_readMarket 87 = .ok (.ifCond .ne 5, 3) := by decide +kernel
theorem dX7_readMarket_90 : decode cX7_readMarket 90 = .ok (.iconst 0, 1) := by decide +kernel
theorem dX7_readMarket_91 : decode cX7_readMarket 91 = .ok (.ireturn, 1) := by decide +kernel
theorem dX7_readMarket_92 : decode cX7_readMarket 92 = .ok (.aload_n 1, 1) := by decide +kernel
theorem dX7_readMarket_93 : decode cX7_readMarket 93 = .ok (.aload_n 0, 1) := by decide +kernel
theorem dX7_readMarket_94 : decode cX7_readMarket 94 = .ok (.getfield 100, 3) := by decide +kernel
theorem dX7_readMarket_97 : decode cX7_readMarket 97 = .ok (.putfield 114, 3) := by decide +kernel
theorem dX7_readMarket_100 : decode cX7_readMarket 100 = .ok (.aload_n 0, 1) := by decide +kernel
theorem dX7_readMarket_101 : decode cX7_readMarket 101 = .ok (.iconst 0, 1) := by decide +kernel
theorem dX7_readMarket_102 : decode cX7_readMarket 102 = .ok (.bipush 50, 2) := by decide +kernel
theorem dX7_readMarket_104 : decode cX7_readMarket 104 = .ok (.invokevirtual 92, 3) := by decide +kernel
theorem dX7_readMarket_107 : decode cX7_readMarket 107 = .ok (.ifCond .ne 5, 3) := by decide +kernel
theorem dX7_readMarket_110 : decode cX7_readMarket 110 = .ok (.iconst 0, 1) := by decide +kernel
theorem dX7_readMarket_111 : decode cX7_readMarket 111 = .ok (.ireturn, 1) := by decide +kernel
theorem dX7_readMarket_112 : decode cX7_readMarket 112 = .ok (.aload_n 1, 1) := by decide +kernel
theorem dX7_readMarket_113 : decode cX7_readMarket 113 = .ok (.aload_n 0, 1) := by decide +kernel
theorem dX7_readMarket_114 : decode cX7_readMarket 114 = .ok (.getfield 100, 3) := by decide +kernel
theorem dX7_readMarket_117 : decode cX7_readMarket 117 = .ok (.putfield 117, 3) := by decide +kernel
theorem dX7_readMarket_120 : decode cX7_readMarket 120 = .ok (.aload_n 0, 1) := by decide +kernel
theorem dX7_readMarket_121 : decode cX7_readMarket 121 = .ok (.invokevirtual 76, 3) := by decide +kernel
theorem dX7_readMarket_124 : decode cX7_readMarket 124 = .ok (.ireturn, 1) := by decide +kernel
theorem dX7_readBuyers_0 : decode cX7_readBuyers 0 = .ok (.aload_n 0, 1) := by decide +kernel
theorem dX7_readBuyers_1 : decode cX7_readBuyers 1 = .ok (.aload_n 1, 1) := by decide +kernel
theorem dX7_readBuyers_2 : decode cX7_readBuyers 2 = .ok (.invokevirtual 120, 3) := by decide +kernel
theorem dX7_readBuyers_5 : decode cX7_readBuyers 5 = .ok (.ifCond .ne 5, 3) := by decide +kernel
theorem dX7_readBuyers_8 : decode cX7_readBuyers 8 = .ok (.iconst 0, 1) := by decide +kernel
theorem dX7_readBuyers_9 : decode cX7_readBuyers 9 = .ok (.ireturn, 1) := by decide +kernel
theorem dX7_readBuyers_10 : decode cX7_readBuyers 10 = .ok (.iconst 1, 1) := by decide +kernel
theorem dX7_readBuyers_11 : decode cX7_readBuyers 11 = .ok (.istore_n 2, 1) := by decide +kernel
theorem dX7_readBuyers_12 : decode cX7_readBuyers 12 = .ok (.iload_n 2, 1) := by decide +kernel
theorem dX7_readBuyers_13 : decode cX7_readBuyers 13 = .ok (.bipush 6, 2) := by decide +kernel
theorem dX7_readBuyers_15 : decode cX7_readBuyers 15 = .ok (.if_icmp .gt 43, 3) := by decide +kernel
theorem dX7_readBuyers_18 : decode cX7_readBuyers 18 = .ok (.aload_n 0, 1) := by decide +kernel
theorem dX7_readBuyers_19 : decode cX7_readBuyers 19 = .ok (.getfield 12, 3) := by decide +kernel
theorem dX7_readBuyers_22 : decode cX7_readBuyers 22 = .ok (.ldc 123, 2) := by decide +kernel
theorem dX7_readBuyers_24 : decode cX7_readBuyers 24 = .ok (.invokevirtual 125, 3) := by decide +kernel
theorem dX7_readBuyers_27 : decode cX7_readBuyers 27 = .ok (.ifCond .eq 31, 3) := by decide +kernel
theorem dX7_readBuyers_30 : decode cX7_readBuyers 30 = .ok (.iload_n 2, 1) := by decide +kernel
theorem dX7_readBuyers_31 : decode cX7_readBuyers 31 = .ok (.bipush 6, 2) := by decide +kernel
theorem dX7_readBuyers_33 : decode cX7_readBuyers 33 = .ok (.if_icmp .ne 9, 3) := by decide +kernel
theorem dX7_readBuyers_36 : decode cX7_readBuyers 36 = .ok (.aload_n 0, 1) := by decide +kernel
theorem dX7_readBuyers_37 : decode cX7_readBuyers 37 = .ok (.iconst 3, 1) := by decide +kernel
theorem dX7_readBuyers_38 : decode cX7_readBuyers 38 = .ok (.invokevirtual 54, 3) := by decide +kernel
theorem dX7_readBuyers_41 : decode cX7_readBuyers 41 = .ok (.ireturn, 1) := by decide +kernel
theorem dX7_readBuyers_42 : decode cX7_readBuyers 42 = .ok (.aload_n 0, 1) := by decide +kernel
theorem dX7_readBuyers_43 : decode cX7_readBuyers 43 = .ok (.aload_n 1, 1) := by decide +kernel
theorem dX7_readBuyers_44 : decode cX7_readBuyers 44 = .ok (.invokevirtual 120, 3) := by decide +kernel
theorem dX7_readBuyers_47 : decode cX7_readBuyers 47 = .ok (.ifCond .ne 5, 3) := by decide +kernel
theorem dX7_readBuyers_50 : decode cX7_readBuyers 50 = .ok (.iconst 0, 1) := by decide +kernel
theorem dX7_readBuyers_51 : decode cX7_readBuyers 51 = .ok (.ireturn, 1) := by decide +kernel
theorem dX7_readBuyers_52 : decode cX7_readBuyers 52 = .ok (.iinc 2 1, 3) := by decide +kernel
theorem dX7_readBuyers_55 : decode cX7_readBuyers 55 = .ok (.goto (-43), 3) := by decide +kernel
theorem dX7_readBuyers_58 : decode cX7_readBuyers 58 = .ok (.iconst 1, 1) := by decide +kernel
theorem dX7_readBuyers_59 : decode cX7_readBuyers 59 = .ok (.ireturn, 1) := by decide +kernel
theorem dX7_readBuyer_0 : decode cX7_readBuyer 0 = .ok (.aload_n 0, 1) := by decide +kernel
theorem dX7_readBuyer_1 : decode cX7_readBuyer 1 = .ok (.ldc 123, 2) := by decide +kernel
theorem dX7_readBuyer_3 : decode cX7_readBuyer 3 = .ok (.invokevirtual 88, 3) := by decide +kernel
theorem dX7_readBuyer_6 : decode cX7_readBuyer 6 = .ok (.ifCond .eq 14, 3) := by decide +kernel
theorem dX7_readBuyer_9 : decode cX7_readBuyer 9 = .ok (.aload_n 0, 1) := by decide +kernel
theorem dX7_readBuyer_10 : decode cX7_readBuyer 10 = .ok (.iconst 0, 1) := by decide +kernel
theorem dX7_readBuyer_11 : decode cX7_readBuyer 11 = .ok (.sipush 9999, 3) := by decide +kernel
theorem dX7_readBuyer_14 : decode cX7_readBuyer 14 = .ok (.invokevirtual 92, 3) := by decide +kernel
theorem dX7_readBuyer_17 : decode cX7_readBuyer 17 = .ok (.ifCond .ne 5, 3) := by decide +kernel
theorem dX7_readBuyer_20 : decode cX7_readBuyer 20 = .ok (.iconst 0, 1) := by decide +kernel
theorem dX7_readBuyer_21 : decode cX7_readBuyer 21 = .ok (.ireturn, 1) := by decide +kernel
theorem dX7_readBuyer_22 : decode cX7_readBuyer 22 = .ok (.aload_n 0, 1) := by decide +kernel
theorem dX7_readBuyer_23 : decode cX7_readBuyer 23 = .ok (.getfield 100, 3) := by decide +kernel
theorem dX7_readBuyer_26 : decode cX7_readBuyer 26 = .ok (.istore_n 2, 1) := by decide +kernel
theorem dX7_readBuyer_27 : decode cX7_readBuyer 27 = .ok (.aload_n 0, 1) := by decide +kernel
theorem dX7_readBuyer_28 : decode cX7_readBuyer 28 = .ok (.iconst 0, 1) := by decide +kernel
theorem dX7_readBuyer_29 : decode cX7_readBuyer 29 = .ok (.iconst 4, 1) := by decide +kernel
theorem dX7_readBuyer_30 : decode cX7_readBuyer 30 = .ok (.invokevirtual 92, 3) := by decide +kernel
theorem dX7_readBuyer_33 : decode cX7_readBuyer 33 = .ok (.ifCond .ne 5, 3) := by decide +kernel
theorem dX7_readBuyer_36 : decode cX7_readBuyer 36 = .ok (.iconst 0, 1) := by decide +kernel
theorem dX7_readBuyer_37 : decode cX7_readBuyer 37 = .ok (.ireturn, 1) := by decide +kernel
theorem dX7_readBuyer_38 : decode cX7_readBuyer 38 = .ok (.aload_n 0, 1) := by decide +kernel
theorem dX7_readBuyer_39 : decode cX7_readBuyer 39 = .ok (.getfield 100, 3) := by decide +kernel
theorem dX7_readBuyer_42 : decode cX7_readBuyer 42 = .ok (.istore_n 3, 1) := by decide +kernel
theorem dX7_readBuyer_43 : decode cX7_readBuyer 43 = .ok (.aload_n 0, 1) := by decide +kernel
theorem dX7_readBuyer_44 : decode cX7_readBuyer 44 = .ok (.iconst 1, 1) := by decide +kernel
theorem dX7_readBuyer_45 : decode cX7_readBuyer 45 = .ok (.sipush 999, 3) := by decide +kernel
theorem dX7_readBuyer_48 : decode cX7_readBuyer 48 = .ok (.invokevirtual 92, 3) := by decide +kernel
theorem dX7_readBuyer_51 : decode cX7_readBuyer 51 = .ok (.ifCond .ne 5, 3) := by decide +kernel
theorem dX7_readBuyer_54 : decode cX7_readBuyer 54 = .ok (.iconst 0, 1) := by decide +kernel
theorem dX7_readBuyer_55 : decode cX7_readBuyer 55 = .ok (.ireturn, 1) := by decide +kernel
theorem dX7_readBuyer_56 : decode cX7_readBuyer 56 = .ok (.aload_n 1, 1) := by decide +kernel
theorem dX7_readBuyer_57 : decode cX7_readBuyer 57 = .ok (.iload_n 2, 1) := by decide +kernel
theorem dX7_readBuyer_58 : decode cX7_readBuyer 58 = .ok (.iload_n 3, 1) := by decide +kernel
theorem dX7_readBuyer_59 : decode cX7_readBuyer 59 = .ok (.aload_n 0, 1) := by decide +kernel
theorem dX7_readBuyer_60 : decode cX7_readBuyer 60 = .ok (.getfield 100, 3) := by decide +kernel
theorem dX7_readBuyer_63 : decode cX7_readBuyer 63 = .ok (.invokevirtual 128, 3) := by decide +kernel
theorem dX7_readBuyer_66 : decode cX7_readBuyer 66 = .ok (.aload_n 0, 1) := by decide +kernel
theorem dX7_readBuyer_67 : decode cX7_readBuyer 67 = .ok (.invokevirtual 76, 3) := by decide +kernel
theorem dX7_readBuyer_70 : decode cX7_readBuyer 70 = .ok (.ireturn, 1) := by decide +kernel
theorem dX7_readBarrels_0 : decode cX7_readBarrels 0 = .ok (.iconst 0, 1) := by decide +kernel
theorem dX7_readBarrels_1 : decode cX7_readBarrels 1 = .ok (.istore_n 2, 1) := by decide +kernel
theorem dX7_readBarrels_2 : decode cX7_readBarrels 2 = .ok (.iload_n 2, 1) := by decide +kernel
theorem dX7_readBarrels_3 : decode cX7_readBarrels 3 = .ok (.bipush 20, 2) := by decide +kernel
theorem dX7_readBarrels_5 : decode cX7_readBarrels 5 = .ok (.if_icmp .gt 87, 3) := by decide +kernel
theorem dX7_readBarrels_8 : decode cX7_readBarrels 8 = .ok (.aload_n 0, 1) := by decide +kernel
theorem dX7_readBarrels_9 : decode cX7_readBarrels 9 = .ok (.getfield 12, 3) := by decide +kernel
theorem dX7_readBarrels_12 : decode cX7_readBarrels 12 = .ok (.ldc 132, 2) := by decide +kernel
theorem dX7_readBarrels_14 : decode cX7_readBarrels 14 = .ok (.invokevirtual 125, 3) := by decide +kernel
theorem dX7_readBarrels_17 : decode cX7_readBarrels 17 = .ok (.ifCond .eq 75, 3) := by decide +kernel
theorem dX7_readBarrels_20 : decode cX7_readBarrels 20 = .ok (.iload_n 2, 1) := by decide +kernel
theorem dX7_readBarrels_21 : decode cX7_readBarrels 21 = .ok (.bipush 20, 2) := by decide +kernel
theorem dX7_readBarrels_23 : decode cX7_readBarrels 23 = .ok (.if_icmp .ne 9, 3) := by decide +kernel
theorem dX7_readBarrels_26 : decode cX7_readBarrels 26 = .ok (.aload_n 0, 1) := by decide +kernel
theorem dX7_readBarrels_27 : decode cX7_readBarrels 27 = .ok (.iconst 3, 1) := by decide +kernel
theorem dX7_readBarrels_28 : decode cX7_readBarrels 28 = .ok (.invokevirtual 54, 3) := by decide +kernel
theorem dX7_readBarrels_31 : decode cX7_readBarrels 31 = .ok (.ireturn, 1) := by decide +kernel
theorem dX7_readBarrels_32 : decode cX7_readBarrels 32 = .ok (.aload_n 0, 1) := by decide +kernel
theorem dX7_readBarrels_33 : decode cX7_readBarrels 33 = .ok (.getfield 12, 3) := by decide +kernel
theorem dX7_readBarrels_36 : decode cX7_readBarrels 36 = .ok (.invokevirtual 65, 3) := by decide +kernel
theorem dX7_readBarrels_39 : decode cX7_readBarrels 39 = .ok (.aload_n 0, 1) := by decide +kernel
theorem dX7_readBarrels_40 : decode cX7_readBarrels 40 = .ok (.aload_n 0, 1) := by decide +kernel
theorem dX7_readBarrels_41 : decode cX7_readBarrels 41 = .ok (.getfield 25, 3) := by decide +kernel
theorem dX7_readBarrels_44 : decode cX7_readBarrels 44 = .ok (.invokevirtual 134, 3) := by decide +kernel
theorem dX7_readBarrels_47 : decode cX7_readBarrels 47 = .ok (.ifCond .eq 10, 3) := by decide +kernel
theorem dX7_readBarrels_50 : decode cX7_readBarrels 50 = .ok (.aload_n 0, 1) := by decide +kernel
theorem dX7_readBarrels_51 : decode cX7_readBarrels 51 = .ok (.invokevirtual 76, 3) := by decide +kernel
theorem dX7_readBarrels_54 : decode cX7_readBarrels 54 = .ok (.ifCond .ne 5, 3) := by decide +kernel
theorem dX7_readBarrels_57 : decode cX7_readBarrels 57 = .ok (.iconst 0, 1) := by decide +kernel
theorem dX7_readBarrels_58 : decode cX7_readBarrels 58 = .ok (.ireturn, 1) := by decide +kernel
theorem dX7_readBarrels_59 : decode cX7_readBarrels 59 = .ok (.aload_n 1, 1) := by decide +kernel
theorem dX7_readBarrels_60 : decode cX7_readBarrels 60 = .ok (.aload_n 0, 1) := by decide +kernel
theorem dX7_readBarrels_61 : decode cX7_readBarrels 61 = .ok (.getfield 25, 3) := by decide +kernel
theorem dX7_readBarrels_64 : decode cX7_readBarrels 64 = .ok (.getfield 138, 3) := by decide +kernel
theorem dX7_readBarrels_67 : decode cX7_readBarrels 67 = .ok (.aload_n 0, 1) := by decide +kernel
theorem dX7_readBarrels_68 : decode cX7_readBarrels 68 = .ok (.getfield 25, 3) := by decide +kernel
theorem dX7_readBarrels_71 : decode cX7_readBarrels 71 = .ok (.getfield 141, 3) := by decide +kernel
theorem dX7_readBarrels_74 : decode cX7_readBarrels 74 = .ok (.iconst 0, 1) := by decide +kernel
theorem dX7_readBarrels_75 : decode cX7_readBarrels 75 = .ok (.aload_n 0, 1) := by decide +kernel
theorem dX7_readBarrels_76 : decode cX7_readBarrels 76 = .ok (.getfield 25, 3) := by decide +kernel
theorem dX7_readBarrels_79 : decode cX7_readBarrels 79 = .ok (.getfield 145, 3) := by decide +kernel
theorem dX7_readBarrels_82 : decode cX7_readBarrels 82 = .ok (.invokevirtual 148, 3) := by decide +kernel
theorem dX7_readBarrels_85 : decode cX7_readBarrels 85 = .ok (.pop, 1) := by decide +kernel
theorem dX7_readBarrels_86 : decode cX7_readBarrels 86 = .ok (.iinc 2 1, 3) := by decide +kernel
theorem dX7_readBarrels_89 : decode cX7_readBarrels 89 = .ok (.goto (-87), 3) := by decide +kernel
theorem dX7_readBarrels_92 : decode cX7_readBarrels 92 = .ok (.iconst 1, 1) := by decide +kernel
theorem dX7_readBarrels_93 : decode cX7_readBarrels 93 = .ok (.ireturn, 1) := by decide +kernel
theorem dX7_readBarrel_0 : decode cX7_readBarrel 0 = .ok (.aload_n 0, 1) := by decide +kernel
theorem dX7_readBarrel_1 : decode cX7_readBarrel 1 = .ok (.iconst 1, 1) := by decide +kernel
theorem dX7_readBarrel_2 : decode cX7_readBarrel 2 = .ok (.sipush 999, 3) := by decide +kernel
theorem dX7_readBarrel_5 : decode cX7_readBarrel 5 = .ok (.invokevirtual 92, 3) := by decide +kernel
theorem dX7_readBarrel_8 : decode cX7_readBarrel 8 = .ok (.ifCond .ne 5, 3) := by decide +kernel
theorem dX7_readBarrel_11 : decode cX7_readBarrel 11 = .ok (.iconst 0, 1) := by decide +kernel
theorem dX7_readBarrel_12 : decode cX7_readBarrel 12 = .ok (.ireturn, 1) := by decide +kernel
theorem dX7_readBarrel_13 : decode cX7_readBarrel 13 = .ok (.aload_n 1, 1) := by decide +kernel
theorem dX7_readBarrel_14 : decode cX7_readBarrel 14 = .ok (.aload_n 0, 1) := by decide +kernel
theorem dX7_readBarrel_15 : decode cX7_readBarrel 15 = .ok (.getfield 100, 3) := by decide +kernel
theorem dX7_readBarrel_18 : decode cX7_readBarrel 18 = .ok (.putfield 138, 3) := by decide +kernel
theorem dX7_readBarrel_21 : decode cX7_readBarrel 21 = .ok (.iconst 0, 1) := by decide +kernel
theorem dX7_readBarrel_22 : decode cX7_readBarrel 22 = .ok (.istore_n 2, 1) := by decide +kernel
theorem dX7_readBarrel_23 : decode cX7_readBarrel 23 = .ok (.iload_n 2, 1) := by decide +kernel
theorem dX7_readBarrel_24 : decode cX7_readBarrel 24 = .ok (.bipush 9, 2) := by decide +kernel
theorem dX7_readBarrel_26 : decode cX7_readBarrel 26 = .ok (.if_icmp .gt 83, 3) := by decide +kernel
theorem dX7_readBarrel_29 : decode cX7_readBarrel 29 = .ok (.iload_n 2, 1) := by decide +kernel
theorem dX7_readBarrel_30 : decode cX7_readBarrel 30 = .ok (.ifCond .eq 14, 3) := by decide +kernel
theorem dX7_readBarrel_33 : decode cX7_readBarrel 33 = .ok (.aload_n 0, 1) := by decide +kernel
theorem dX7_readBarrel_34 : decode cX7_readBarrel 34 = .ok (.getfield 12, 3) := by decide +kernel
theorem dX7_readBarrel_37 : decode cX7_readBarrel 37 = .ok (.getfield 51, 3) := by decide +kernel
theorem dX7_readBarrel_40 : decode cX7_readBarrel 40 = .ok (.iconst 2, 1) := by decide +kernel
theorem dX7_readBarrel_41 : decode cX7_readBarrel 41 = .ok (.if_icmp .ne 68, 3) := by decide +kernel
theorem dX7_readBarrel_44 : decode cX7_readBarrel 44 = .ok (.iload_n 2, 1) := by decide +kernel
theorem dX7_readBarrel_45 : decode cX7_readBarrel 45 = .ok (.bipush 9, 2) := by decide +kernel
theorem dX7_readBarrel_47 : decode cX7_readBarrel 47 = .ok (.if_icmp .ne 25, 3) := by decide +kernel
theorem dX7_readBarrel_50 : decode cX7_readBarrel 50 = .ok (.aload_n 0, 1) := by decide +kernel
theorem dX7_readBarrel_51 : decode cX7_readBarrel 51 = .ok (.aload_n 0, 1) := by decide +kernel
theorem dX7_readBarrel_52 : decode cX7_readBarrel 52 = .ok (.bipush 10, 2) := by decide +kernel
theorem dX7_readBarrel_54 : decode cX7_readBarrel 54 = .ok (.sipush 150, 3) := by decide +kernel
theorem dX7_readBarrel_57 : decode cX7_readBarrel 57 = .ok (.invokevirtual 152, 3) := by decide +kernel
theorem dX7_readBarrel_60 : decode cX7_readBarrel 60 = .ok (.ifCond .eq 7, 3) := by decide +kernel
theorem dX7_readBarrel_63 : decode cX7_readBarrel 63 = .ok (.iconst 3, 1) := by decide +kernel
theorem dX7_readBarrel_64 : decode cX7_readBarrel 64 = .ok (.goto 4, 3) := by decide +kernel
theorem dX7_readBarrel_67 : decode cX7_readBarrel 67 = .ok (.iconst 2, 1) := by decide +kernel
theorem dX7_readBarrel_68 : decode cX7_readBarrel 68 = .ok (.invokevirtual 54, 3) := by decide +kernel
theorem dX7_readBarrel_71 : decode cX7_readBarrel 71 = .ok (.ireturn, 1) := by decide +kernel
theorem dX7_readBarrel_72 : decode cX7_readBarrel 72 = .ok (.aload_n 0, 1) := by decide +kernel
theorem dX7_readBarrel_73 : decode cX7_readBarrel 73 = .ok (.bipush 10, 2) := by decide +kernel
theorem dX7_readBarrel_75 : decode cX7_readBarrel 75 = .ok (.sipush 150, 3) := by decide +kernel
theorem dX7_readBarrel_78 : decode cX7_readBarrel 78 = .ok (.invokevirtual 92, 3) := by decide +kernel
theorem dX7_readBarrel_81 : decode cX7_readBarrel 81 = .ok (.ifCond .ne 5, 3) := by decide +kernel
theorem dX7_readBarrel_84 : decode cX7_readBarrel 84 = .ok (.iconst 0, 1) := by decide +kernel
theorem dX7_readBarrel_85 : decode cX7_readBarrel 85 = .ok (.ireturn, 1) := by decide +kernel
theorem dX7_readBarrel_86 : decode cX7_readBarrel 86 = .ok (.aload_n 1, 1) := by decide +kernel
theorem dX7_readBarrel_87 : decode cX7_readBarrel 87 = .ok (.getfield 141, 3) := by decide +kernel
theorem dX7_readBarrel_90 : decode cX7_readBarrel 90 = .ok (.iload_n 2, 1) := by decide +kernel
theorem dX7_readBarrel_91 : decode cX7_readBarrel 91 = .ok (.aload_n 0, 1) := by decide +kernel
theorem dX7_readBarrel_92 : decode cX7_readBarrel 92 = .ok (.getfield 100, 3) := by decide +kernel
theorem dX7_readBarrel_95 : decode cX7_readBarrel 95 = .ok (.iastore, 1) := by decide +kernel
theorem dX7_readBarrel_96 : decode cX7_readBarrel 96 = .ok (.aload_n 1, 1) := by decide +kernel
theorem dX7_readBarrel_97 : decode cX7_readBarrel 97 = .ok (.iload_n 2, 1) := by decide +kernel
theorem dX7_readBarrel_98 : decode cX7_readBarrel 98 = .ok (.iconst 1, 1) := by decide +kernel
theorem dX7_readBarrel_99 : decode cX7_readBarrel 99 = .ok (.iadd, 1) := by decide +kernel
theorem dX7_readBarrel_100 : decode cX7_readBarrel 100 = .ok (.putfield 145, 3) := by decide +kernel
theorem dX7_readBarrel_103 : decode cX7_readBarrel 103 = .ok (.iinc 2 1, 3) := by decide +kernel
theorem dX7_readBarrel_106 : decode cX7_readBarrel 106 = .ok (.goto (-83), 3) := by decide +kernel
theorem dX7_readBarrel_109 : decode cX7_readBarrel 109 = .ok (.iconst 1, 1) := by decide +kernel
theorem dX7_readBarrel_110 : decode cX7_readBarrel 110 = .ok (.ireturn, 1) := by decide +kernel
theorem dX7_takeWord_0 : decode cX7_takeWord 0 = .ok (.aload_n 0, 1) := by decide +kernel
theorem dX7_takeWord_1 : decode cX7_takeWord 1 = .ok (.getfield 12, 3) := by decide +kernel
theorem dX7_takeWord_4 : decode cX7_takeWord 4 = .ok (.aload_n 1, 1) := by decide +kernel
theorem dX7_takeWord_5 : decode cX7_takeWord 5 = .ok (.invokevirtual 125, 3) := by decide +kernel
theorem dX7_takeWord_8 : decode cX7_takeWord 8 = .ok (.ifCond .ne 9, 3) := by decide +kernel
theorem dX7_takeWord_11 : decode cX7_takeWord 11 = .ok (.aload_n 0, 1) := by decide +kernel
theorem dX7_takeWord_12 : decode cX7_takeWord 12 = .ok (.iconst 1, 1) := by decide +kernel
theorem dX7_takeWord_13 : decode cX7_takeWord 13 = .ok (.invokevirtual 54, 3) := by decide +kernel
theorem dX7_takeWord_16 : decode cX7_takeWord 16 = .ok (.ireturn, 1) := by decide +kernel
theorem dX7_takeWord_17 : decode cX7_takeWord 17 = .ok (.aload_n 0, 1) := by decide +kernel
theorem dX7_takeWord_18 : decode cX7_takeWord 18 = .ok (.getfield 12, 3) := by decide +kernel
theorem dX7_takeWord_21 : decode cX7_takeWord 21 = .ok (.invokevirtual 65, 3) := by decide +kernel
theorem dX7_takeWord_24 : decode cX7_takeWord 24 = .ok (.iconst 1, 1) := by decide +kernel
theorem dX7_takeWord_25 : decode cX7_takeWord 25 = .ok (.ireturn, 1) := by decide +kernel
theorem dX7_takeSemicolon_0 : decode cX7_takeSemicolon 0 = .ok (.aload_n 0, 1) := by decide +kernel
theorem dX7_takeSemicolon_1 : decode cX7_takeSemicolon 1 = .ok (.getfield 12, 3) := by decide +kernel
theorem dX7_takeSemicolon_4 : decode cX7_takeSemicolon 4 = .ok (.getfield 51, 3) := by decide +kernel
theorem dX7_takeSemicolon_7 : decode cX7_takeSemicolon 7 = .ok (.iconst 3, 1) := by decide +kernel
theorem dX7_takeSemicolon_8 : decode cX7_takeSemicolon 8 = .ok (.if_icmp .eq 9, 3) := by decide +kernel
theorem dX7_takeSemicolon_11 : decode cX7_takeSemicolon 11 = .ok (.aload_n 0, 1) := by decide +kernel
theorem dX7_takeSemicolon_12 : decode cX7_takeSemicolon 12 = .ok (.iconst 1, 1) := by decide +kernel
theorem dX7_takeSemicolon_13 : decode cX7_takeSemicolon 13 = .ok (.invokevirtual 54, 3) := by decide +kernel
theorem dX7_takeSemicolon_16 : decode cX7_takeSemicolon 16 = .ok (.ireturn, 1) := by decide +kernel
theorem dX7_takeSemicolon_17 : decode cX7_takeSemicolon 17 = .ok (.aload_n 0, 1) := by decide +kernel
theorem dX7_takeSemicolon_18 : decode cX7_takeSemicolon 18 = .ok (.getfield 12, 3) := by decide +kernel
theorem dX7_takeSemicolon_21 : decode cX7_takeSemicolon 21 = .ok (.invokevirtual 65, 3) := by decide +kernel
theorem dX7_takeSemicolon_24 : decode cX7_takeSemicolon 24 = .ok (.iconst 1, 1) := by decide +kernel
theorem dX7_takeSemicolon_25 : decode cX7_takeSemicolon 25 = .ok (.ireturn, 1) := by decide +kernel
theorem dX7_takeNumber_0 : decode cX7_takeNumber 0 = .ok (.aload_n 0, 1) := by decide +kernel
theorem dX7_takeNumber_1 : decode cX7_takeNumber 1 = .ok (.getfield 12, 3) := by decide +kernel
theorem dX7_takeNumber_4 : decode cX7_takeNumber 4 = .ok (.getfield 51, 3) := by decide +kernel
theorem dX7_takeNumber_7 : decode cX7_takeNumber 7 = .ok (.iconst 2, 1) := by decide +kernel
theorem dX7_takeNumber_8 : decode cX7_takeNumber 8 = .ok (.if_icmp .eq 9, 3) := by decide +kernel
theorem dX7_takeNumber_11 : decode cX7_takeNumber 11 = .ok (.aload_n 0, 1) := by decide +kernel
theorem dX7_takeNumber_12 : decode cX7_takeNumber 12 = .ok (.iconst 1, 1) := by decide +kernel
theorem dX7_takeNumber_13 : decode cX7_takeNumber 13 = .ok (.invokevirtual 54, 3) := by decide +kernel
theorem dX7_takeNumber_16 : decode cX7_takeNumber 16 = .ok (.ireturn, 1) := by decide +kernel
theorem dX7_takeNumber_17 : decode cX7_takeNumber 17 = .ok (.aload_n 0, 1) := by decide +kernel
theorem dX7_takeNumber_18 : decode cX7_takeNumber 18 = .ok (.iload_n 1, 1) := by decide +kernel
theorem dX7_takeNumber_19 : decode cX7_takeNumber 19 = .ok (.iload_n 2, 1) := by decide +kernel
theorem dX7_takeNumber_20 : decode cX7_takeNumber 20 = .ok (.invokevirtual 152, 3) := by decide +kernel
theorem dX7_takeNumber_23 : decode cX7_takeNumber 23 = .ok (.ifCond .ne 9, 3) := by decide +kernel
theorem dX7_takeNumber_26 : decode cX7_takeNumber 26 = .ok (.aload_n 0, 1) := by decide +kernel
theorem dX7_takeNumber_27 : decode cX7_takeNumber 27 = .ok (.iconst 2, 1) := by decide +kernel
theorem dX7_takeNumber_28 : decode cX7_takeNumber 28 = .ok (.invokevirtual 54, 3) := by decide +kernel
theorem dX7_takeNumber_31 : decode cX7_takeNumber 31 = .ok (.ireturn, 1) := by decide +kernel
theorem dX7_takeNumber_32 : decode cX7_takeNumber 32 = .ok (.aload_n 0, 1) := by decide +kernel
theorem dX7_takeNumber_33 : decode cX7_takeNumber 33 = .ok (.aload_n 0, 1) := by decide +kernel
theorem dX7_takeNumber_34 : decode cX7_takeNumber 34 = .ok (.getfield 12, 3) := by decide +kernel
theorem dX7_takeNumber_37 : decode cX7_takeNumber 37 = .ok (.getfield 184, 3) := by decide +kernel
theorem dX7_takeNumber_40 : decode cX7_takeNumber 40 = .ok (.putfield 100, 3) := by decide +kernel
theorem dX7_takeNumber_43 : decode cX7_takeNumber 43 = .ok (.aload_n 0, 1) := by decide +kernel
theorem dX7_takeNumber_44 : decode cX7_takeNumber 44 = .ok (.getfield 12, 3) := by decide +kernel
theorem dX7_takeNumber_47 : decode cX7_takeNumber 47 = .ok (.invokevirtual 65, 3) := by decide +kernel
theorem dX7_takeNumber_50 : decode cX7_takeNumber 50 = .ok (.iconst 1, 1) := by decide +kernel
theorem dX7_takeNumber_51 : decode cX7_takeNumber 51 = .ok (.ireturn, 1) := by decide +kernel
theorem dX7_isInRange_0 : decode cX7_isInRange 0 = .ok (.aload_n 0, 1) := by decide +kernel
theorem dX7_isInRange_1 : decode cX7_isInRange 1 = .ok (.getfield 12, 3) := by decide +kernel
theorem dX7_isInRange_4 : decode cX7_isInRange 4 = .ok (.getfield 184, 3) := by decide +kernel
theorem dX7_isInRange_7 : decode cX7_isInRange 7 = .ok (.iload_n 1, 1) := by decide +kernel
theorem dX7_isInRange_8 : decode cX7_isInRange 8 = .ok (.if_icmp .lt 18, 3) := by decide +kernel
theorem dX7_isInRange_11 : decode cX7_isInRange 11 = .ok (.aload_n 0, 1) := by decide +kernel
theorem dX7_isInRange_12 : decode cX7_isInRange 12 = .ok (.getfield 12, 3) := by decide +kernel
theorem dX7_isInRange_15 : decode cX7_isInRange 15 = .ok (.getfield 184, 3) := by decide +kernel
theorem dX7_isInRange_18 : decode cX7_isInRange 18 = .ok (.iload_n 2, 1) := by decide +kernel
theorem dX7_isInRange_19 : decode cX7_isInRange 19 = .ok (.if_icmp .gt 7, 3) := by decide +kernel
theorem dX7_isInRange_22 : decode cX7_isInRange 22 = .ok (.iconst 1, 1) := by decide +kernel
theorem dX7_isInRange_23 : decode cX7_isInRange 23 = .ok (.goto 4, 3) := by decide +kernel
theorem dX7_isInRange_26 : decode cX7_isInRange 26 = .ok (.iconst 0, 1) := by decide +kernel
theorem dX7_isInRange_27 : decode cX7_isInRange 27 = .ok (.ireturn, 1) := by decide +kernel
theorem dX7_fail_0 : decode cX7_fail 0 = .ok (.aload_n 0, 1) := by decide +kernel
theorem dX7_fail_1 : decode cX7_fail 1 = .ok (.iload_n 1, 1) := by decide +kernel
theorem dX7_fail_2 : decode cX7_fail 2 = .ok (.putfield 80, 3) := by decide +kernel
theorem dX7_fail_5 : decode cX7_fail 5 = .ok (.aload_n 0, 1) := by decide +kernel
theorem dX7_fail_6 : decode cX7_fail 6 = .ok (.aload_n 0, 1) := by decide +kernel
theorem dX7_fail_7 : decode cX7_fail 7 = .ok (.getfield 12, 3) := by decide +kernel
theorem dX7_fail_10 : decode cX7_fail 10 = .ok (.getfield 187, 3) := by decide +kernel
theorem dX7_fail_13 : decode cX7_fail 13 = .ok (.putfield 29, 3) := by decide +kernel
theorem dX7_fail_16 : decode cX7_fail 16 = .ok (.iconst 0, 1) := by decide +kernel
theorem dX7_fail_17 : decode cX7_fail 17 = .ok (.ireturn, 1) := by decide +kernel
theorem dX8_init_0 : decode cX8_init 0 = .ok (.aload_n 0, 1) := by decide +kernel
theorem dX8_init_1 : decode cX8_init 1 = .ok (.invokespecial 3, 3) := by decide +kernel
theorem dX8_init_4 : decode cX8_init 4 = .ok (.aload_n 0, 1) := by decide +kernel
theorem dX8_init_5 : decode cX8_init 5 = .ok (.iconst 5, 1) := by decide +kernel
theorem dX8_init_6 : decode cX8_init 6 = .ok (.putfield 9, 3) := by decide +kernel
theorem dX8_init_9 : decode cX8_init 9 = .ok (.aload_n 0, 1) := by decide +kernel
theorem dX8_init_10 : decode cX8_init 10 = .ok (.iconst 1, 1) := by decide +kernel
theorem dX8_init_11 : decode cX8_init 11 = .ok (.putfield 15, 3) := by decide +kernel
theorem dX8_init_14 : decode cX8_init 14 = .ok (.return_, 1) := by decide +kernel
theorem dX8_isLow_0 : decode cX8_isLow 0 = .ok (.aload_n 0, 1) := by decide +kernel
theorem dX8_isLow_1 : decode cX8_isLow 1 = .ok (.getfield 9, 3) := by decide +kernel
theorem dX8_isLow_4 : decode cX8_isLow 4 = .ok (.ifCond .le 23, 3) := by decide +kernel
theorem dX8_isLow_7 : decode cX8_isLow 7 = .ok (.aload_n 0, 1) := by decide +kernel
theorem dX8_isLow_8 : decode cX8_isLow 8 = .ok (.getfield 18, 3) := by decide +kernel
theorem dX8_isLow_11 : decode cX8_isLow 11 = .ok (.aload_n 0, 1) := by decide +kernel
theorem dX8_isLow_12 : decode cX8_isLow 12 = .ok (.getfield 9, 3) := by decide +kernel
theorem dX8_isLow_15 : decode cX8_isLow 15 = .ok (.irem, 1) := by decide +kernel
theorem dX8_isLow_16 : decode cX8_isLow 16 = .ok (.aload_n 0, 1) := by decide +kernel
theorem dX8_isLow_17 : decode cX8_isLow 17 = .ok (.getfield 15, 3) := by decide +kernel
theorem dX8_isLow_20 : decode cX8_isLow 20 = .ok (.if_icmp .ge 7, 3) := by decide +kernel
theorem dX8_isLow_23 : decode cX8_isLow 23 = .ok (.iconst 1, 1) := by decide +kernel
theorem dX8_isLow_24 : decode cX8_isLow 24 = .ok (.goto 4, 3) := by decide +kernel
theorem dX8_isLow_27 : decode cX8_isLow 27 = .ok (.iconst 0, 1) := by decide +kernel
theorem dX8_isLow_28 : decode cX8_isLow 28 = .ok (.ireturn, 1) := by decide +kernel
theorem dX8_hornBlows_0 : decode cX8_hornBlows 0 = .ok (.aload_n 0, 1) := by decide +kernel
theorem dX8_hornBlows_1 : decode cX8_hornBlows 1 = .ok (.getfield 9, 3) := by decide +kernel
theorem dX8_hornBlows_4 : decode cX8_hornBlows 4 = .ok (.ifCond .le 23, 3) := by decide +kernel
theorem dX8_hornBlows_7 : decode cX8_hornBlows 7 = .ok (.aload_n 0, 1) := by decide +kernel
theorem dX8_hornBlows_8 : decode cX8_hornBlows 8 = .ok (.getfield 18, 3) := by decide +kernel
theorem dX8_hornBlows_11 : decode cX8_hornBlows 11 = .ok (.aload_n 0, 1) := by decide +kernel
theorem dX8_hornBlows_12 : decode cX8_hornBlows 12 = .ok (.getfield 9, 3) := by decide +kernel
theorem dX8_hornBlows_15 : decode cX8_hornBlows 15 = .ok (.irem, 1) := by decide +kernel
theorem dX8_hornBlows_16 : decode cX8_hornBlows 16 = .ok (.aload_n 0, 1) := by decide +kernel
theorem dX8_hornBlows_17 : decode cX8_hornBlows 17 = .ok (.getfield 15, 3) := by decide +kernel
theorem dX8_hornBlows_20 : decode cX8_hornBlows 20 = .ok (.if_icmp .ne 7, 3) := by decide +kernel
theorem dX8_hornBlows_23 : decode cX8_hornBlows 23 = .ok (.iconst 1, 1) := by decide +kernel
theorem dX8_hornBlows_24 : decode cX8_hornBlows 24 = .ok (.goto 4, 3) := by decide +kernel
theorem dX8_hornBlows_27 : decode cX8_hornBlows 27 = .ok (.iconst 0, 1) := by decide +kernel
theorem dX8_hornBlows_28 : decode cX8_hornBlows 28 = .ok (.ireturn, 1) := by decide +kernel
theorem dX8_untilHorn_0 : decode cX8_untilHorn 0 = .ok (.aload_n 0, 1) := by decide +kernel
theorem dX8_untilHorn_1 : decode cX8_untilHorn 1 = .ok (.getfield 9, 3) := by decide +kernel
theorem dX8_untilHorn_4 : decode cX8_untilHorn 4 = .ok (.ifCond .le 14, 3) := by decide +kernel
theorem dX8_untilHorn_7 : decode cX8_untilHorn 7 = .ok (.aload_n 0, 1) := by decide +kernel
theorem dX8_untilHorn_8 : decode cX8_untilHorn 8 = .ok (.getfield 15, 3) := by decide +kernel
theorem dX8_untilHorn_11 : decode cX8_untilHorn 11 = .ok (.aload_n 0, 1) := by decide +kernel
theorem dX8_untilHorn_12 : decode cX8_untilHorn 12 = .ok (.getfield 9, 3) := by decide +kernel
theorem dX8_untilHorn_15 : decode cX8_untilHorn 15 = .ok (.if_icmp .lt 5, 3) := by decide +kernel
theorem dX8_untilHorn_18 : decode cX8_untilHorn 18 = .ok (.iconst (-1), 1) := by decide +kernel
theorem dX8_untilHorn_19 : decode cX8_untilHorn 19 = .ok (.ireturn, 1) := by decide +kernel
theorem dX8_untilHorn_20 : decode cX8_untilHorn 20 = .ok (.aload_n 0, 1) := by decide +kernel
theorem dX8_untilHorn_21 : decode cX8_untilHorn 21 = .ok (.getfield 15, 3) := by decide +kernel
theorem dX8_untilHorn_24 : decode cX8_untilHorn 24 = .ok (.aload_n 0, 1) := by decide +kernel
theorem dX8_untilHorn_25 : decode cX8_untilHorn 25 = .ok (.getfield 18, 3) := by decide +kernel
theorem dX8_untilHorn_28 : decode cX8_untilHorn 28 = .ok (.aload_n 0, 1) := by decide +kernel
theorem dX8_untilHorn_29 : decode cX8_untilHorn 29 = .ok (.getfield 9, 3) := by decide +kernel
theorem dX8_untilHorn_32 : decode cX8_untilHorn 32 = .ok (.irem, 1) := by decide +kernel
theorem dX8_untilHorn_33 : decode cX8_untilHorn 33 = .ok (.isub, 1) := by decide +kernel
theorem dX8_untilHorn_34 : decode cX8_untilHorn 34 = .ok (.istore_n 1, 1) := by decide +kernel
theorem dX8_untilHorn_35 : decode cX8_untilHorn 35 = .ok (.iload_n 1, 1) := by decide +kernel
theorem dX8_untilHorn_36 : decode cX8_untilHorn 36 = .ok (.ifCond .le 7, 3) := by decide +kernel
theorem dX8_untilHorn_39 : decode cX8_untilHorn 39 = .ok (.iload_n 1, 1) := by decide +kernel
theorem dX8_untilHorn_40 : decode cX8_untilHorn 40 = .ok (.goto 9, 3) := by decide +kernel
theorem dX8_untilHorn_43 : decode cX8_untilHorn 43 = .ok (.iload_n 1, 1) := by decide +kernel
theorem dX8_untilHorn_44 : decode cX8_untilHorn 44 = .ok (.aload_n 0, 1) := by decide +kernel
theorem dX8_untilHorn_45 : decode cX8_untilHorn 45 = .ok (.getfield 9, 3) := by decide +kernel
theorem dX8_untilHorn_48 : decode cX8_untilHorn 48 = .ok (.iadd, 1) := by decide +kernel
theorem dX8_untilHorn_49 : decode cX8_untilHorn 49 = .ok (.ireturn, 1) := by decide +kernel
theorem dX8_copyFrom_0 : decode cX8_copyFrom 0 = .ok (.aload_n 0, 1) := by decide +kernel
theorem dX8_copyFrom_1 : decode cX8_copyFrom 1 = .ok (.aload_n 1, 1) := by decide +kernel
theorem dX8_copyFrom_2 : decode cX8_copyFrom 2 = .ok (.getfield 9, 3) := by decide +kernel
theorem dX8_copyFrom_5 : decode cX8_copyFrom 5 = .ok (.putfield 9, 3) := by decide +kernel
theorem dX8_copyFrom_8 : decode cX8_copyFrom 8 = .ok (.aload_n 0, 1) := by decide +kernel
theorem dX8_copyFrom_9 : decode cX8_copyFrom 9 = .ok (.aload_n 1, 1) := by decide +kernel
theorem dX8_copyFrom_10 : decode cX8_copyFrom 10 = .ok (.getfield 15, 3) := by decide +kernel
theorem dX8_copyFrom_13 : decode cX8_copyFrom 13 = .ok (.putfield 15, 3) := by decide +kernel
theorem dX8_copyFrom_16 : decode cX8_copyFrom 16 = .ok (.aload_n 0, 1) := by decide +kernel
theorem dX8_copyFrom_17 : decode cX8_copyFrom 17 = .ok (.aload_n 1, 1) := by decide +kernel
theorem dX8_copyFrom_18 : decode cX8_copyFrom 18 = .ok (.getfield 18, 3) := by decide +kernel
theorem dX8_copyFrom_21 : decode cX8_copyFrom 21 = .ok (.putfield 18, 3) := by decide +kernel
theorem dX8_copyFrom_24 : decode cX8_copyFrom 24 = .ok (.return_, 1) := by decide +kernel
theorem dX10_init_0 : decode cX10_init 0 = .ok (.aload_n 0, 1) := by decide +kernel
theorem dX10_init_1 : decode cX10_init 1 = .ok (.invokespecial 1, 3) := by decide +kernel
theorem dX10_init_4 : decode cX10_init 4 = .ok (.aload_n 0, 1) := by decide +kernel
theorem dX10_init_5 : decode cX10_init 5 = .ok (.new 7, 3) := by decide +kernel
theorem dX10_init_8 : decode cX10_init 8 = .ok (.dup, 1) := by decide +kernel
theorem dX10_init_9 : decode cX10_init 9 = .ok (.invokespecial 9, 3) := by decide +kernel
theorem dX10_init_12 : decode cX10_init 12 = .ok (.putfield 10, 3) := by decide +kernel
theorem dX10_init_15 : decode cX10_init 15 = .ok (.aload_n 0, 1) := by decide +kernel
theorem dX10_init_16 : decode cX10_init 16 = .ok (.new 7, 3) := by decide +kernel
theorem dX10_init_19 : decode cX10_init 19 = .ok (.dup, 1) := by decide +kernel
theorem dX10_init_20 : decode cX10_init 20 = .ok (.invokespecial 9, 3) := by decide +kernel
theorem dX10_init_23 : decode cX10_init 23 = .ok (.putfield 16, 3) := by decide +kernel
theorem dX10_init_26 : decode cX10_init 26 = .ok (.aload_n 0, 1) := by decide +kernel
theorem dX10_init_27 : decode cX10_init 27 = .ok (.new 19, 3) := by decide +kernel
theorem dX10_init_30 : decode cX10_init 30 = .ok (.dup, 1) := by decide +kernel
theorem dX10_init_31 : decode cX10_init 31 = .ok (.invokespecial 21, 3) := by decide +kernel
theorem dX10_init_34 : decode cX10_init 34 = .ok (.putfield 22, 3) := by decide +kernel
theorem dX10_init_37 : decode cX10_init 37 = .ok (.aload_n 0, 1) := by decide +kernel
theorem dX10_init_38 : decode cX10_init 38 = .ok (.iconst 2, 1) := by decide +kernel
theorem dX10_init_39 : decode cX10_init 39 = .ok (.anewarray 7, 3) := by decide +kernel
theorem dX10_init_42 : decode cX10_init 42 = .ok (.putfield 26, 3) := by decide +kernel
theorem dX10_init_45 : decode cX10_init 45 = .ok (.aload_n 0, 1) := by decide +kernel
theorem dX10_init_46 : decode cX10_init 46 = .ok (.iconst 2, 1) := by decide +kernel
theorem dX10_init_47 : decode cX10_init 47 = .ok (.newarray .boolean, 2) := by decide +kernel
theorem dX10_init_49 : decode cX10_init 49 = .ok (.putfield 30, 3) := by decide +kernel
theorem dX10_init_52 : decode cX10_init 52 = .ok (.aload_n 0, 1) := by decide +kernel
theorem dX10_init_53 : decode cX10_init 53 = .ok (.new 34, 3) := by decide +kernel
theorem dX10_init_56 : decode cX10_init 56 = .ok (.dup, 1) := by decide +kernel
theorem dX10_init_57 : decode cX10_init 57 = .ok (.invokespecial 36, 3) := by decide +kernel
theorem dX10_init_60 : decode cX10_init 60 = .ok (.putfield 37, 3) := by decide +kernel
theorem dX10_init_63 : decode cX10_init 63 = .ok (.aload_n 0, 1) := by decide +kernel
theorem dX10_init_64 : decode cX10_init 64 = .ok (.bipush 9, 2) := by decide +kernel
theorem dX10_init_66 : decode cX10_init 66 = .ok (.newarray .int, 2) := by decide +kernel
theorem dX10_init_68 : decode cX10_init 68 = .ok (.putfield 41, 3) := by decide +kernel
theorem dX10_init_71 : decode cX10_init 71 = .ok (.aload_n 0, 1) := by decide +kernel
theorem dX10_init_72 : decode cX10_init 72 = .ok (.new 45, 3) := by decide +kernel
theorem dX10_init_75 : decode cX10_init 75 = .ok (.dup, 1) := by decide +kernel
theorem dX10_init_76 : decode cX10_init 76 = .ok (.invokespecial 47, 3) := by decide +kernel
theorem dX10_init_79 : decode cX10_init 79 = .ok (.putfield 48, 3) := by decide +kernel
theorem dX10_init_82 : decode cX10_init 82 = .ok (.iconst 0, 1) := by decide +kernel
theorem dX10_init_83 : decode cX10_init 83 = .ok (.istore_n 1, 1) := by decide +kernel
theorem dX10_init_84 : decode cX10_init 84 = .ok (.iload_n 1, 1) := by decide +kernel
theorem dX10_init_85 : decode cX10_init 85 = .ok (.iconst 2, 1) := by decide +kernel
theorem dX10_init_86 : decode cX10_init 86 = .ok (.if_icmp .ge 22, 3) := by decide +kernel
theorem dX10_init_89 : decode cX10_init 89 = .ok (.aload_n 0, 1) := by decide +kernel
theorem dX10_init_90 : decode cX10_init 90 = .ok (.getfield 26, 3) := by decide +kernel
theorem dX10_init_93 : decode cX10_init 93 = .ok (.iload_n 1, 1) := by decide +kernel
theorem dX10_init_94 : decode cX10_init 94 = .ok (.new 7, 3) := by decide +kernel
theorem dX10_init_97 : decode cX10_init 97 = .ok (.dup, 1) := by decide +kernel
theorem dX10_init_98 : decode cX10_init 98 = .ok (.invokespecial 9, 3) := by decide +kernel
theorem dX10_init_101 : decode cX10_init 101 = .ok (.aastore, 1) := by decide +kernel
theorem dX10_init_102 : decode cX10_init 102 = .ok (.iinc 1 1, 3) := by decide +kernel
theorem dX10_init_105 : decode cX10_init 105 = .ok (.goto (-21), 3) := by decide +kernel
theorem dX10_init_108 : decode cX10_init 108 = .ok (.aload_n 0, 1) := by decide +kernel
theorem dX10_init_109 : decode cX10_init 109 = .ok (.getfield 37, 3) := by decide +kernel
theorem dX10_init_112 : decode cX10_init 112 = .ok (.getfield 52, 3) := by decide +kernel
theorem dX10_init_115 : decode cX10_init 115 = .ok (.ldc 56, 2) := by decide +kernel
theorem dX10_init_117 : decode cX10_init 117 = .ok (.invokevirtual 58, 3) := by decide +kernel
theorem dX10_init_120 : decode cX10_init 120 = .ok (.aload_n 0, 1) := by decide +kernel
theorem dX10_init_121 : decode cX10_init 121 = .ok (.getfield 37, 3) := by decide +kernel
theorem dX10_init_124 : decode cX10_init 124 = .ok (.aload_n 0, 1) := by decide +kernel
theorem dX10_init_125 : decode cX10_init 125 = .ok (.getfield 10, 3) := by decide +kernel
theorem dX10_init_128 : decode cX10_init 128 = .ok (.invokevirtual 64, 3) := by decide +kernel
theorem dX10_init_131 : decode cX10_init 131 = .ok (.pop, 1) := by decide +kernel
theorem dX10_init_132 : decode cX10_init 132 = .ok (.aload_n 0, 1) := by decide +kernel
theorem dX10_init_133 : decode cX10_init 133 = .ok (.getfield 37, 3) := by decide +kernel
theorem dX10_init_136 : decode cX10_init 136 = .ok (.getfield 52, 3) := by decide +kernel
theorem dX10_init_139 : decode cX10_init 139 = .ok (.iconst 0, 1) := by decide +kernel
theorem dX10_init_140 : decode cX10_init 140 = .ok (.putfield 68, 3) := by decide +kernel
theorem dX10_init_143 : decode cX10_init 143 = .ok (.return_, 1) := by decide +kernel
theorem dX10_append_0 : decode cX10_append 0 = .ok (.aload_n 0, 1) := by decide +kernel
theorem dX10_append_1 : decode cX10_append 1 = .ok (.getfield 37, 3) := by decide +kernel
theorem dX10_append_4 : decode cX10_append 4 = .ok (.getfield 52, 3) := by decide +kernel
theorem dX10_append_7 : decode cX10_append 7 = .ok (.astore 6, 2) := by decide +kernel
theorem dX10_append_9 : decode cX10_append 9 = .ok (.aload 6, 2) := by decide +kernel
theorem dX10_append_11 : decode cX10_append 11 = .ok (.getfield 68, 3) := by decide +kernel
theorem dX10_append_14 : decode cX10_append 14 = .ok (.bipush 20, 2) := by decide +kernel
theorem dX10_append_16 : decode cX10_append 16 = .ok (.iadd, 1) := by decide +kernel
theorem dX10_append_17 : decode cX10_append 17 = .ok (.sipush 500, 3) := by decide +kernel
theorem dX10_append_20 : decode cX10_append 20 = .ok (.if_icmp .le 13, 3) := by decide +kernel
theorem dX10_append_23 : decode cX10_append 23 = .ok (.new 72, 3) := by decide +kernel
theorem dX10_append_26 : decode cX10_append 26 = .ok (.dup, 1) := by decide +kernel
theorem dX10_append_27 : decode cX10_append 27 = .ok (.ldc 74, 2) := by decide +kernel
theorem dX10_append_29 : decode cX10_append 29 = .ok (.invokespecial 76, 3) := by decide +kernel
theorem dX10_append_32 : decode cX10_append 32 = .ok (.athrow, 1) := by decide +kernel
theorem dX10_append_33 : decode cX10_append 33 = .ok (.aload 6, 2) := by decide +kernel
theorem dX10_append_35 : decode cX10_append 35 = .ok (.iload_n 1, 1) := by decide +kernel
theorem dX10_append_36 : decode cX10_append 36 = .ok (.invokevirtual 78, 3) := by decide +kernel
theorem dX10_append_39 : decode cX10_append 39 = .ok (.aload 6, 2) := by decide +kernel
theorem dX10_append_41 : decode cX10_append 41 = .ok (.iload_n 2, 1) := by decide +kernel
theorem dX10_append_42 : decode cX10_append 42 = .ok (.invokevirtual 78, 3) := by decide +kernel
theorem dX10_append_45 : decode cX10_append 45 = .ok (.aload 6, 2) := by decide +kernel
theorem dX10_append_47 : decode cX10_append 47 = .ok (.iload_n 3, 1) := by decide +kernel
theorem dX10_append_48 : decode cX10_append 48 = .ok (.invokevirtual 78, 3) := by decide +kernel
theorem dX10_append_51 : decode cX10_append 51 = .ok (.aload 6, 2) := by decide +kernel
theorem dX10_append_53 : decode cX10_append 53 = .ok (.iload 4, 2) := by decide +kernel
theorem dX10_append_55 : decode cX10_append 55 = .ok (.invokevirtual 78, 3) := by decide +kernel
theorem dX10_append_58 : decode cX10_append 58 = .ok (.aload 6, 2) := by decide +kernel
theorem dX10_append_60 : decode cX10_append 60 = .ok (.iload 5, 2) := by decide +kernel
theorem dX10_append_62 : decode cX10_append 62 = .ok (.invokevirtual 78, 3) := by decide +kernel
theorem dX10_append_65 : decode cX10_append 65 = .ok (.aload 6, 2) := by decide +kernel
theorem dX10_append_67 : decode cX10_append 67 = .ok (.getfield 68, 3) := by decide +kernel
theorem dX10_append_70 : decode cX10_append 70 = .ok (.ireturn, 1) := by decide +kernel
theorem dX10_truncate_0 : decode cX10_truncate 0 = .ok (.iload_n 1, 1) := by decide +kernel
theorem dX10_truncate_1 : decode cX10_truncate 1 = .ok (.iconst 0, 1) := by decide +kernel
theorem dX10_truncate_2 : decode cX10_truncate 2 = .ok (.aload_n 0, 1) := by decide +kernel
theorem dX10_truncate_3 : decode cX10_truncate 3 = .ok (.getfield 37, 3) := by decide +kernel
theorem dX10_truncate_6 : decode cX10_truncate 6 = .ok (.getfield 52, 3) := by decide +kernel
theorem dX10_truncate_9 : decode cX10_truncate 9 = .ok (.getfield 68, 3) := by decide +kernel
theorem dX10_truncate_12 : decode cX10_truncate 12 = .ok (.invokestatic 82, 3) := by decide +kernel
theorem dX10_truncate_15 : decode cX10_truncate 15 = .ok (.aload_n 0, 1) := by decide +kernel
theorem dX10_truncate_16 : decode cX10_truncate 16 = .ok (.getfield 37, 3) := by decide +kernel
theorem dX10_truncate_19 : decode cX10_truncate 19 = .ok (.getfield 52, 3) := by decide +kernel
theorem dX10_truncate_22 : decode cX10_truncate 22 = .ok (.iload_n 1, 1) := by decide +kernel
theorem dX10_truncate_23 : decode cX10_truncate 23 = .ok (.putfield 68, 3) := by decide +kernel
theorem dX10_truncate_26 : decode cX10_truncate 26 = .ok (.iload_n 1, 1) := by decide +kernel
theorem dX10_truncate_27 : decode cX10_truncate 27 = .ok (.ireturn, 1) := by decide +kernel
theorem dX10_loadSetup_0 : decode cX10_loadSetup 0 = .ok (.aload_n 0, 1) := by decide +kernel
theorem dX10_loadSetup_1 : decode cX10_loadSetup 1 = .ok (.getfield 37, 3) := by decide +kernel
theorem dX10_loadSetup_4 : decode cX10_loadSetup 4 = .ok (.aload_n 0, 1) := by decide +kernel
theorem dX10_loadSetup_5 : decode cX10_loadSetup 5 = .ok (.getfield 16, 3) := by decide +kernel
theorem dX10_loadSetup_8 : decode cX10_loadSetup 8 = .ok (.invokevirtual 64, 3) := by decide +kernel
theorem dX10_loadSetup_11 : decode cX10_loadSetup 11 = .ok (.istore_n 1, 1) := by decide +kernel
theorem dX10_loadSetup_12 : decode cX10_loadSetup 12 = .ok (.aload_n 0, 1) := by decide +kernel
theorem dX10_loadSetup_13 : decode cX10_loadSetup 13 = .ok (.getfield 37, 3) := by decide +kernel
theorem dX10_loadSetup_16 : decode cX10_loadSetup 16 = .ok (.getfield 52, 3) := by decide +kernel
theorem dX10_loadSetup_19 : decode cX10_loadSetup 19 = .ok (.iconst 0, 1) := by decide +kernel
theorem dX10_loadSetup_20 : decode cX10_loadSetup 20 = .ok (.putfield 68, 3) := by decide +kernel
theorem dX10_loadSetup_23 : decode cX10_loadSetup 23 = .ok (.iload_n 1, 1) := by decide +kernel
theorem dX10_loadSetup_24 : decode cX10_loadSetup 24 = .ok (.ifCond .ne 13, 3) := by decide +kernel
theorem dX10_loadSetup_27 : decode cX10_loadSetup 27 = .ok (.new 92, 3) := by decide +kernel
theorem dX10_loadSetup_30 : decode cX10_loadSetup 30 = .ok (.dup, 1) := by decide +kernel
theorem dX10_loadSetup_31 : decode cX10_loadSetup 31 = .ok (.ldc 94, 2) := by decide +kernel
theorem dX10_loadSetup_33 : decode cX10_loadSetup 33 = .ok (.invokespecial 96, 3) := by decide +kernel
theorem dX10_loadSetup_36 : decode cX10_loadSetup 36 = .ok (.athrow, 1) := by decide +kernel
theorem dX10_loadSetup_37 : decode cX10_loadSetup 37 = .ok (.aload_n 0, 1) := by decide +kernel
theorem dX10_loadSetup_38 : decode cX10_loadSetup 38 = .ok (.getfield 22, 3) := by decide +kernel
theorem dX10_loadSetup_41 : decode cX10_loadSetup 41 = .ok (.aload_n 0, 1) := by decide +kernel
theorem dX10_loadSetup_42 : decode cX10_loadSetup 42 = .ok (.getfield 10, 3) := by decide +kernel
theorem dX10_loadSetup_45 : decode cX10_loadSetup 45 = .ok (.invokevirtual 97, 3) := by decide +kernel
theorem dX10_loadSetup_48 : decode cX10_loadSetup 48 = .ok (.aload_n 0, 1) := by decide +kernel
theorem dX10_loadSetup_49 : decode cX10_loadSetup 49 = .ok (.getfield 10, 3) := by decide +kernel
theorem dX10_loadSetup_52 : decode cX10_loadSetup 52 = .ok (.aload_n 0, 1) := by decide +kernel
theorem dX10_loadSetup_53 : decode cX10_loadSetup 53 = .ok (.getfield 16, 3) := by decide +kernel
theorem dX10_loadSetup_56 : decode cX10_loadSetup 56 = .ok (.invokevirtual 101, 3) := by decide +kernel
theorem dX10_loadSetup_59 : decode cX10_loadSetup 59 = .ok (.aload_n 0, 1) := by decide +kernel
theorem dX10_loadSetup_60 : decode cX10_loadSetup 60 = .ok (.getfield 10, 3) := by decide +kernel
theorem dX10_loadSetup_63 : decode cX10_loadSetup 63 = .ok (.getfield 104, 3) := by decide +kernel
theorem dX10_loadSetup_66 : decode cX10_loadSetup 66 = .ok (.ireturn, 1) := by decide +kernel
theorem dX10_nod_0 : decode cX10_nod 0 = .ok (.aload_n 0, 1) := by decide +kernel
theorem dX10_nod_1 : decode cX10_nod 1 = .ok (.iload_n 1, 1) := by decide +kernel
theorem dX10_nod_2 : decode cX10_nod 2 = .ok (.invokevirtual 127, 3) := by decide +kernel
theorem dX10_nod_5 : decode cX10_nod 5 = .ok (.aload_n 0, 1) := by decide +kernel
theorem dX10_nod_6 : decode cX10_nod 6 = .ok (.getfield 10, 3) := by decide +kernel
theorem dX10_nod_9 : decode cX10_nod 9 = .ok (.iload_n 1, 1) := by decide +kernel
theorem dX10_nod_10 : decode cX10_nod 10 = .ok (.invokevirtual 130, 3) := by decide +kernel
theorem dX10_nod_13 : decode cX10_nod 13 = .ok (.ifCond .ne 7, 3) := by decide +kernel
theorem dX10_nod_16 : decode cX10_nod 16 = .ok (.iconst 1, 1) := by decide +kernel
theorem dX10_nod_17 : decode cX10_nod 17 = .ok (.goto 4, 3) := by decide +kernel
theorem dX10_nod_20 : decode cX10_nod 20 = .ok (.iconst 0, 1) := by decide +kernel
theorem dX10_nod_21 : decode cX10_nod 21 = .ok (.invokestatic 134, 3) := by decide +kernel
theorem dX10_nod_24 : decode cX10_nod 24 = .ok (.aload_n 0, 1) := by decide +kernel
theorem dX10_nod_25 : decode cX10_nod 25 = .ok (.getfield 22, 3) := by decide +kernel
theorem dX10_nod_28 : decode cX10_nod 28 = .ok (.aload_n 0, 1) := by decide +kernel
theorem dX10_nod_29 : decode cX10_nod 29 = .ok (.getfield 10, 3) := by decide +kernel
theorem dX10_nod_32 : decode cX10_nod 32 = .ok (.invokevirtual 97, 3) := by decide +kernel
theorem dX10_nod_35 : decode cX10_nod 35 = .ok (.aload_n 0, 1) := by decide +kernel
theorem dX10_nod_36 : decode cX10_nod 36 = .ok (.getfield 10, 3) := by decide +kernel
theorem dX10_nod_39 : decode cX10_nod 39 = .ok (.iload_n 1, 1) := by decide +kernel
theorem dX10_nod_40 : decode cX10_nod 40 = .ok (.invokevirtual 138, 3) := by decide +kernel
theorem dX10_nod_43 : decode cX10_nod 43 = .ok (.aload_n 0, 1) := by decide +kernel
theorem dX10_nod_44 : decode cX10_nod 44 = .ok (.getfield 10, 3) := by decide +kernel
theorem dX10_nod_47 : decode cX10_nod 47 = .ok (.getfield 141, 3) := by decide +kernel
theorem dX10_nod_50 : decode cX10_nod 50 = .ok (.ireturn, 1) := by decide +kernel
theorem dX10_passMinutes_0 : decode cX10_passMinutes 0 = .ok (.iload_n 1, 1) := by decide +kernel
theorem dX10_passMinutes_1 : decode cX10_passMinutes 1 = .ok (.iconst 1, 1) := by decide +kernel
theorem dX10_passMinutes_2 : decode cX10_passMinutes 2 = .ok (.sipush 200, 3) := by decide +kernel
theorem dX10_passMinutes_5 : decode cX10_passMinutes 5 = .ok (.invokestatic 82, 3) := by decide +kernel
theorem dX10_passMinutes_8 : decode cX10_passMinutes 8 = .ok (.aload_n 0, 1) := by decide +kernel
theorem dX10_passMinutes_9 : decode cX10_passMinutes 9 = .ok (.getfield 22, 3) := by decide +kernel
theorem dX10_passMinutes_12 : decode cX10_passMinutes 12 = .ok (.aload_n 0, 1) := by decide +kernel
theorem dX10_passMinutes_13 : decode cX10_passMinutes 13 = .ok (.getfield 10, 3) := by decide +kernel
theorem dX10_passMinutes_16 : decode cX10_passMinutes 16 = .ok (.invokevirtual 97, 3) := by decide +kernel
theorem dX10_passMinutes_19 : decode cX10_passMinutes 19 = .ok (.aload_n 0, 1) := by decide +kernel
theorem dX10_passMinutes_20 : decode cX10_passMinutes 20 = .ok (.getfield 10, 3) := by decide +kernel
theorem dX10_passMinutes_23 : decode cX10_passMinutes 23 = .ok (.iload_n 1, 1) := by decide +kernel
theorem dX10_passMinutes_24 : decode cX10_passMinutes 24 = .ok (.invokevirtual 144, 3) := by decide +kernel
theorem dX10_passMinutes_27 : decode cX10_passMinutes 27 = .ok (.ireturn, 1) := by decide +kernel
theorem dX10_addBarrel_0 : decode cX10_addBarrel 0 = .ok (.iload_n 1, 1) := by decide +kernel
theorem dX10_addBarrel_1 : decode cX10_addBarrel 1 = .ok (.iconst 1, 1) := by decide +kernel
theorem dX10_addBarrel_2 : decode cX10_addBarrel 2 = .ok (.sipush 999, 3) := by decide +kernel
theorem dX10_addBarrel_5 : decode cX10_addBarrel 5 = .ok (.invokestatic 82, 3) := by decide +kernel
theorem dX10_addBarrel_8 : decode cX10_addBarrel 8 = .ok (.iload_n 2, 1) := by decide +kernel
theorem dX10_addBarrel_9 : decode cX10_addBarrel 9 = .ok (.iconst 1, 1) := by decide +kernel
theorem dX10_addBarrel_10 : decode cX10_addBarrel 10 = .ok (.bipush 9, 2) := by decide +kernel
theorem dX10_addBarrel_12 : decode cX10_addBarrel 12 = .ok (.invokestatic 82, 3) := by decide +kernel
theorem dX10_addBarrel_15 : decode cX10_addBarrel 15 = .ok (.iload_n 3, 1) := by decide +kernel
theorem dX10_addBarrel_16 : decode cX10_addBarrel 16 = .ok (.bipush 10, 2) := by decide +kernel
theorem dX10_addBarrel_18 : decode cX10_addBarrel 18 = .ok (.sipush 150, 3) := by decide +kernel
theorem dX10_addBarrel_21 : decode cX10_addBarrel 21 = .ok (.invokestatic 82, 3) := by decide +kernel
theorem dX10_addBarrel_24 : decode cX10_addBarrel 24 = .ok (.aload_n 0, 1) := by decide +kernel
theorem dX10_addBarrel_25 : decode cX10_addBarrel 25 = .ok (.getfield 10, 3) := by decide +kernel
theorem dX10_addBarrel_28 : decode cX10_addBarrel 28 = .ok (.invokevirtual 147, 3) := by decide +kernel
theorem dX10_addBarrel_31 : decode cX10_addBarrel 31 = .ok (.invokestatic 134, 3) := by decide +kernel
theorem dX10_addBarrel_34 : decode cX10_addBarrel 34 = .ok (.aload_n 0, 1) := by decide +kernel
theorem dX10_addBarrel_35 : decode cX10_addBarrel 35 = .ok (.getfield 22, 3) := by decide +kernel
theorem dX10_addBarrel_38 : decode cX10_addBarrel 38 = .ok (.aload_n 0, 1) := by decide +kernel
theorem dX10_addBarrel_39 : decode cX10_addBarrel 39 = .ok (.getfield 10, 3) := by decide +kernel
theorem dX10_addBarrel_42 : decode cX10_addBarrel 42 = .ok (.invokevirtual 97, 3) := by decide +kernel
theorem dX10_addBarrel_45 : decode cX10_addBarrel 45 = .ok (.aload_n 0, 1) := by decide +kernel
theorem dX10_addBarrel_46 : decode cX10_addBarrel 46 = .ok (.getfield 41, 3) := by decide +kernel
theorem dX10_addBarrel_49 : decode cX10_addBarrel 49 = .ok (.iload_n 3, 1) := by decide +kernel
theorem dX10_addBarrel_50 : decode cX10_addBarrel 50 = .ok (.invokestatic 151, 3) := by decide +kernel
theorem dX10_addBarrel_53 : decode cX10_addBarrel 53 = .ok (.aload_n 0, 1) := by decide +kernel
theorem dX10_addBarrel_54 : decode cX10_addBarrel 54 = .ok (.getfield 10, 3) := by decide +kernel
theorem dX10_addBarrel_57 : decode cX10_addBarrel 57 = .ok (.iload_n 1, 1) := by decide +kernel
theorem dX10_addBarrel_58 : decode cX10_addBarrel 58 = .ok (.aload_n 0, 1) := by decide +kernel
theorem dX10_addBarrel_59 : decode cX10_addBarrel 59 = .ok (.getfield 41, 3) := by decide +kernel
theorem dX10_addBarrel_62 : decode cX10_addBarrel 62 = .ok (.iconst 0, 1) := by decide +kernel
theorem dX10_addBarrel_63 : decode cX10_addBarrel 63 = .ok (.iload_n 2, 1) := by decide +kernel
theorem dX10_addBarrel_64 : decode cX10_addBarrel 64 = .ok (.invokevirtual 157, 3) := by decide +kernel
theorem dX10_addBarrel_67 : decode cX10_addBarrel 67 = .ok (.ireturn, 1) := by decide +kernel
theorem dX10_split_0 : decode cX10_split 0 = .ok (.aload_n 0, 1) := by decide +kernel
theorem dX10_split_1 : decode cX10_split 1 = .ok (.iload_n 1, 1) := by decide +kernel
theorem dX10_split_2 : decode cX10_split 2 = .ok (.invokevirtual 161, 3) := by decide +kernel
theorem dX10_split_5 : decode cX10_split 5 = .ok (.iload_n 2, 1) := by decide +kernel
theorem dX10_split_6 : decode cX10_split 6 = .ok (.iconst 1, 1) := by decide +kernel
theorem dX10_split_7 : decode cX10_split 7 = .ok (.bipush 8, 2) := by decide +kernel
theorem dX10_split_9 : decode cX10_split 9 = .ok (.invokestatic 82, 3) := by decide +kernel
theorem dX10_split_12 : decode cX10_split 12 = .ok (.aload_n 0, 1) := by decide +kernel
theorem dX10_split_13 : decode cX10_split 13 = .ok (.getfield 10, 3) := by decide +kernel
theorem dX10_split_16 : decode cX10_split 16 = .ok (.iload_n 1, 1) := by decide +kernel
theorem dX10_split_17 : decode cX10_split 17 = .ok (.iload_n 2, 1) := by decide +kernel
theorem dX10_split_18 : decode cX10_split 18 = .ok (.invokevirtual 164, 3) := by decide +kernel
theorem dX10_split_21 : decode cX10_split 21 = .ok (.invokestatic 134, 3) := by decide +kernel
theorem dX10_split_24 : decode cX10_split 24 = .ok (.aload_n 0, 1) := by decide +kernel
theorem dX10_split_25 : decode cX10_split 25 = .ok (.getfield 22, 3) := by decide +kernel
theorem dX10_split_28 : decode cX10_split 28 = .ok (.aload_n 0, 1) := by decide +kernel
theorem dX10_split_29 : decode cX10_split 29 = .ok (.getfield 10, 3) := by decide +kernel
theorem dX10_split_32 : decode cX10_split 32 = .ok (.invokevirtual 97, 3) := by decide +kernel
theorem dX10_split_35 : decode cX10_split 35 = .ok (.aload_n 0, 1) := by decide +kernel
theorem dX10_split_36 : decode cX10_split 36 = .ok (.getfield 10, 3) := by decide +kernel
theorem dX10_split_39 : decode cX10_split 39 = .ok (.iload_n 1, 1) := by decide +kernel
theorem dX10_split_40 : decode cX10_split 40 = .ok (.iload_n 2, 1) := by decide +kernel
theorem dX10_split_41 : decode cX10_split 41 = .ok (.invokevirtual 168, 3) := by decide +kernel
theorem dX10_split_44 : decode cX10_split 44 = .ok (.ireturn, 1) := by decide +kernel
theorem dX10_withdraw_0 : decode cX10_withdraw 0 = .ok (.aload_n 0, 1) := by decide +kernel
theorem dX10_withdraw_1 : decode cX10_withdraw 1 = .ok (.iload_n 1, 1) := by decide +kernel
theorem dX10_withdraw_2 : decode cX10_withdraw 2 = .ok (.invokevirtual 161, 3) := by decide +kernel
theorem dX10_withdraw_5 : decode cX10_withdraw 5 = .ok (.aload_n 0, 1) := by decide +kernel
theorem dX10_withdraw_6 : decode cX10_withdraw 6 = .ok (.getfield 10, 3) := by decide +kernel
theorem dX10_withdraw_9 : decode cX10_withdraw 9 = .ok (.iload_n 1, 1) := by decide +kernel
theorem dX10_withdraw_10 : decode cX10_withdraw 10 = .ok (.invokevirtual 172, 3) := by decide +kernel
theorem dX10_withdraw_13 : decode cX10_withdraw 13 = .ok (.invokestatic 134, 3) := by decide +kernel
theorem dX10_withdraw_16 : decode cX10_withdraw 16 = .ok (.aload_n 0, 1) := by decide +kernel
theorem dX10_withdraw_17 : decode cX10_withdraw 17 = .ok (.getfield 22, 3) := by decide +kernel
theorem dX10_withdraw_20 : decode cX10_withdraw 20 = .ok (.aload_n 0, 1) := by decide +kernel
theorem dX10_withdraw_21 : decode cX10_withdraw 21 = .ok (.getfield 10, 3) := by decide +kernel
theorem dX10_withdraw_24 : decode cX10_withdraw 24 = .ok (.invokevirtual 97, 3) := by decide +kernel
theorem dX10_withdraw_27 : decode cX10_withdraw 27 = .ok (.aload_n 0, 1) := by decide +kernel
theorem dX10_withdraw_28 : decode cX10_withdraw 28 = .ok (.getfield 10, 3) := by decide +kernel
theorem dX10_withdraw_31 : decode cX10_withdraw 31 = .ok (.iload_n 1, 1) := by decide +kernel
theorem dX10_withdraw_32 : decode cX10_withdraw 32 = .ok (.invokevirtual 175, 3) := by decide +kernel
theorem dX10_withdraw_35 : decode cX10_withdraw 35 = .ok (.aload_n 0, 1) := by decide +kernel
theorem dX10_withdraw_36 : decode cX10_withdraw 36 = .ok (.getfield 10, 3) := by decide +kernel
theorem dX10_withdraw_39 : decode cX10_withdraw 39 = .ok (.getfield 178, 3) := by decide +kernel
theorem dX10_withdraw_42 : decode cX10_withdraw 42 = .ok (.ireturn, 1) := by decide +kernel
theorem dX10_fund_0 : decode cX10_fund 0 = .ok (.aload_n 0, 1) := by decide +kernel
theorem dX10_fund_1 : decode cX10_fund 1 = .ok (.iload_n 1, 1) := by decide +kernel
theorem dX10_fund_2 : decode cX10_fund 2 = .ok (.invokevirtual 127, 3) := by decide +kernel
theorem dX10_fund_5 : decode cX10_fund 5 = .ok (.iload_n 2, 1) := by decide +kernel
theorem dX10_fund_6 : decode cX10_fund 6 = .ok (.iconst 1, 1) := by decide +kernel
theorem dX10_fund_7 : decode cX10_fund 7 = .ok (.sipush 9999, 3) := by decide +kernel
theorem dX10_fund_10 : decode cX10_fund 10 = .ok (.invokestatic 82, 3) := by decide +kernel
theorem dX10_fund_13 : decode cX10_fund 13 = .ok (.aload_n 0, 1) := by decide +kernel
theorem dX10_fund_14 : decode cX10_fund 14 = .ok (.getfield 22, 3) := by decide +kernel
theorem dX10_fund_17 : decode cX10_fund 17 = .ok (.aload_n 0, 1) := by decide +kernel
theorem dX10_fund_18 : decode cX10_fund 18 = .ok (.getfield 10, 3) := by decide +kernel
theorem dX10_fund_21 : decode cX10_fund 21 = .ok (.invokevirtual 97, 3) := by decide +kernel
theorem dX10_fund_24 : decode cX10_fund 24 = .ok (.aload_n 0, 1) := by decide +kernel
theorem dX10_fund_25 : decode cX10_fund 25 = .ok (.getfield 10, 3) := by decide +kernel
theorem dX10_fund_28 : decode cX10_fund 28 = .ok (.iload_n 1, 1) := by decide +kernel
theorem dX10_fund_29 : decode cX10_fund 29 = .ok (.iload_n 2, 1) := by decide +kernel
theorem dX10_fund_30 : decode cX10_fund 30 = .ok (.invokevirtual 181, 3) := by decide +kernel
theorem dX10_fund_33 : decode cX10_fund 33 = .ok (.aload_n 0, 1) := by decide +kernel
theorem dX10_fund_34 : decode cX10_fund 34 = .ok (.getfield 10, 3) := by decide +kernel
theorem dX10_fund_37 : decode cX10_fund 37 = .ok (.getfield 185, 3) := by decide +kernel
theorem dX10_fund_40 : decode cX10_fund 40 = .ok (.iload_n 1, 1) := by decide +kernel
theorem dX10_fund_41 : decode cX10_fund 41 = .ok (.aaload, 1) := by decide +kernel
theorem dX10_fund_42 : decode cX10_fund 42 = .ok (.getfield 189, 3) := by decide +kernel
theorem dX10_fund_45 : decode cX10_fund 45 = .ok (.ireturn, 1) := by decide +kernel
theorem dX10_setStep_0 : decode cX10_setStep 0 = .ok (.iload_n 1, 1) := by decide +kernel
theorem dX10_setStep_1 : decode cX10_setStep 1 = .ok (.iconst 1, 1) := by decide +kernel
theorem dX10_setStep_2 : decode cX10_setStep 2 = .ok (.bipush 50, 2) := by decide +kernel
theorem dX10_setStep_4 : decode cX10_setStep 4 = .ok (.invokestatic 82, 3) := by decide +kernel
theorem dX10_setStep_7 : decode cX10_setStep 7 = .ok (.aload_n 0, 1) := by decide +kernel
theorem dX10_setStep_8 : decode cX10_setStep 8 = .ok (.getfield 22, 3) := by decide +kernel
theorem dX10_setStep_11 : decode cX10_setStep 11 = .ok (.aload_n 0, 1) := by decide +kernel
theorem dX10_setStep_12 : decode cX10_setStep 12 = .ok (.getfield 10, 3) := by decide +kernel
theorem dX10_setStep_15 : decode cX10_setStep 15 = .ok (.invokevirtual 97, 3) := by decide +kernel
theorem dX10_setStep_18 : decode cX10_setStep 18 = .ok (.aload_n 0, 1) := by decide +kernel
theorem dX10_setStep_19 : decode cX10_setStep 19 = .ok (.getfield 10, 3) := by decide +kernel
theorem dX10_setStep_22 : decode cX10_setStep 22 = .ok (.getfield 203, 3) := by decide +kernel
theorem dX10_setStep_25 : decode cX10_setStep 25 = .ok (.istore_n 2, 1) := by decide +kernel
theorem dX10_setStep_26 : decode cX10_setStep 26 = .ok (.aload_n 0, 1) := by decide +kernel
theorem dX10_setStep_27 : decode cX10_setStep 27 = .ok (.getfield 10, 3) := by decide +kernel
theorem dX10_setStep_30 : decode cX10_setStep 30 = .ok (.iload_n 1, 1) := by decide +kernel
theorem dX10_setStep_31 : decode cX10_setStep 31 = .ok (.putfield 203, 3) := by decide +kernel
theorem dX10_setStep_34 : decode cX10_setStep 34 = .ok (.iload_n 2, 1) := by decide +kernel
theorem dX10_setStep_35 : decode cX10_setStep 35 = .ok (.ireturn, 1) := by decide +kernel
theorem dX10_setTaste_0 : decode cX10_setTaste 0 = .ok (.aload_n 0, 1) := by decide +kernel
theorem dX10_setTaste_1 : decode cX10_setTaste 1 = .ok (.iload_n 1, 1) := by decide +kernel
theorem dX10_setTaste_2 : decode cX10_setTaste 2 = .ok (.invokevirtual 127, 3) := by decide +kernel
theorem dX10_setTaste_5 : decode cX10_setTaste 5 = .ok (.iload_n 2, 1) := by decide +kernel
theorem dX10_setTaste_6 : decode cX10_setTaste 6 = .ok (.iconst 0, 1) := by decide +kernel
theorem dX10_setTaste_7 : decode cX10_setTaste 7 = .ok (.iconst 4, 1) := by decide +kernel
theorem dX10_setTaste_8 : decode cX10_setTaste 8 = .ok (.invokestatic 82, 3) := by decide +kernel
theorem dX10_setTaste_11 : decode cX10_setTaste 11 = .ok (.iload_n 3, 1) := by decide +kernel
theorem dX10_setTaste_12 : decode cX10_setTaste 12 = .ok (.iconst 1, 1) := by decide +kernel
theorem dX10_setTaste_13 : decode cX10_setTaste 13 = .ok (.sipush 999, 3) := by decide +kernel
theorem dX10_setTaste_16 : decode cX10_setTaste 16 = .ok (.invokestatic 82, 3) := by decide +kernel
theorem dX10_setTaste_19 : decode cX10_setTaste 19 = .ok (.aload_n 0, 1) := by decide +kernel
theorem dX10_setTaste_20 : decode cX10_setTaste 20 = .ok (.getfield 22, 3) := by decide +kernel
theorem dX10_setTaste_23 : decode cX10_setTaste 23 = .ok (.aload_n 0, 1) := by decide +kernel
theorem dX10_setTaste_24 : decode cX10_setTaste 24 = .ok (.getfield 10, 3) := by decide +kernel
theorem dX10_setTaste_27 : decode cX10_setTaste 27 = .ok (.invokevirtual 97, 3) := by decide +kernel
theorem dX10_setTaste_30 : decode cX10_setTaste 30 = .ok (.aload_n 0, 1) := by decide +kernel
theorem dX10_setTaste_31 : decode cX10_setTaste 31 = .ok (.getfield 10, 3) := by decide +kernel
theorem dX10_setTaste_34 : decode cX10_setTaste 34 = .ok (.getfield 185, 3) := by decide +kernel
theorem dX10_setTaste_37 : decode cX10_setTaste 37 = .ok (.iload_n 1, 1) := by decide +kernel
theorem dX10_setTaste_38 : decode cX10_setTaste 38 = .ok (.aaload, 1) := by decide +kernel
theorem dX10_setTaste_39 : decode cX10_setTaste 39 = .ok (.astore 4, 2) := by decide +kernel
theorem dX10_setTaste_41 : decode cX10_setTaste 41 = .ok (.aload 4, 2) := by decide +kernel
theorem dX10_setTaste_43 : decode cX10_setTaste 43 = .ok (.getfield 206, 3) := by decide +kernel
theorem dX10_setTaste_46 : decode cX10_setTaste 46 = .ok (.istore 5, 2) := by decide +kernel
theorem dX10_setTaste_48 : decode cX10_setTaste 48 = .ok (.aload 4, 2) := by decide +kernel
theorem dX10_setTaste_50 : decode cX10_setTaste 50 = .ok (.iload_n 2, 1) := by decide +kernel
theorem dX10_setTaste_51 : decode cX10_setTaste 51 = .ok (.putfield 206, 3) := by decide +kernel
theorem dX10_setTaste_54 : decode cX10_setTaste 54 = .ok (.aload 4, 2) := by decide +kernel
theorem dX10_setTaste_56 : decode cX10_setTaste 56 = .ok (.iload_n 3, 1) := by decide +kernel
theorem dX10_setTaste_57 : decode cX10_setTaste 57 = .ok (.putfield 209, 3) := by decide +kernel
theorem dX10_setTaste_60 : decode cX10_setTaste 60 = .ok (.iload 5, 2) := by decide +kernel
theorem dX10_setTaste_62 : decode cX10_setTaste 62 = .ok (.ireturn, 1) := by decide +kernel
theorem dX10_minute_0 : decode cX10_minute 0 = .ok (.aload_n 0, 1) := by decide +kernel
theorem dX10_minute_1 : decode cX10_minute 1 = .ok (.getfield 10, 3) := by decide +kernel
theorem dX10_minute_4 : decode cX10_minute 4 = .ok (.getfield 225, 3) := by decide +kernel
theorem dX10_minute_7 : decode cX10_minute 7 = .ok (.getfield 229, 3) := by decide +kernel
theorem dX10_minute_10 : decode cX10_minute 10 = .ok (.ireturn, 1) := by decide +kernel
theorem dX10_isOpen_0 : decode cX10_isOpen 0 = .ok (.aload_n 0, 1) := by decide +kernel
theorem dX10_isOpen_1 : decode cX10_isOpen 1 = .ok (.getfield 10, 3) := by decide +kernel
theorem dX10_isOpen_4 : decode cX10_isOpen 4 = .ok (.getfield 225, 3) := by decide +kernel
theorem dX10_isOpen_7 : decode cX10_isOpen 7 = .ok (.invokevirtual 234, 3) := by decide +kernel
theorem dX10_isOpen_10 : decode cX10_isOpen 10 = .ok (.ireturn, 1) := by decide +kernel
theorem dX10_minutesToHorn_0 : decode cX10_minutesToHorn 0 = .ok (.aload_n 0, 1) := by decide +kernel
theorem dX10_minutesToHorn_1 : decode cX10_minutesToHorn 1 = .ok (.getfield 10, 3) := by decide +kernel
theorem dX10_minutesToHorn_4 : decode cX10_minutesToHorn 4 = .ok (.getfield 225, 3) := by decide +kernel
theorem dX10_minutesToHorn_7 : decode cX10_minutesToHorn 7 = .ok (.invokevirtual 237, 3) := by decide +kernel
theorem dX10_minutesToHorn_10 : decode cX10_minutesToHorn 10 = .ok (.ireturn, 1) := by decide +kernel
theorem dX10_step_0 : decode cX10_step 0 = .ok (.aload_n 0, 1) := by decide +kernel
theorem dX10_step_1 : decode cX10_step 1 = .ok (.getfield 10, 3) := by decide +kernel
theorem dX10_step_4 : decode cX10_step 4 = .ok (.getfield 203, 3) := by decide +kernel
theorem dX10_step_7 : decode cX10_step 7 = .ok (.ireturn, 1) := by decide +kernel
theorem dX10_sellerCoins_0 : decode cX10_sellerCoins 0 = .ok (.aload_n 0, 1) := by decide +kernel
theorem dX10_sellerCoins_1 : decode cX10_sellerCoins 1 = .ok (.getfield 10, 3) := by decide +kernel
theorem dX10_sellerCoins_4 : decode cX10_sellerCoins 4 = .ok (.getfield 241, 3) := by decide +kernel
theorem dX10_sellerCoins_7 : decode cX10_sellerCoins 7 = .ok (.ireturn, 1) := by decide +kernel
theorem dX10_houseCoins_0 : decode cX10_houseCoins 0 = .ok (.aload_n 0, 1) := by decide +kernel
theorem dX10_houseCoins_1 : decode cX10_houseCoins 1 = .ok (.getfield 10, 3) := by decide +kernel
theorem dX10_houseCoins_4 : decode cX10_houseCoins 4 = .ok (.getfield 244, 3) := by decide +kernel
theorem dX10_houseCoins_7 : decode cX10_houseCoins 7 = .ok (.ireturn, 1) := by decide +kernel
theorem dX10_openBarrel_0 : decode cX10_openBarrel 0 = .ok (.aload_n 0, 1) := by decide +kernel
theorem dX10_openBarrel_1 : decode cX10_openBarrel 1 = .ok (.getfield 10, 3) := by decide +kernel
theorem dX10_openBarrel_4 : decode cX10_openBarrel 4 = .ok (.getfield 247, 3) := by decide +kernel
theorem dX10_openBarrel_7 : decode cX10_openBarrel 7 = .ok (.ireturn, 1) := by decide +kernel
theorem dX10_bid_0 : decode cX10_bid 0 = .ok (.aload_n 0, 1) := by decide +kernel
theorem dX10_bid_1 : decode cX10_bid 1 = .ok (.getfield 10, 3) := by decide +kernel
theorem dX10_bid_4 : decode cX10_bid 4 = .ok (.getfield 141, 3) := by decide +kernel
theorem dX10_bid_7 : decode cX10_bid 7 = .ok (.ireturn, 1) := by decide +kernel
theorem dX10_leader_0 : decode cX10_leader 0 = .ok (.aload_n 0, 1) := by decide +kernel
theorem dX10_leader_1 : decode cX10_leader 1 = .ok (.getfield 10, 3) := by decide +kernel
theorem dX10_leader_4 : decode cX10_leader 4 = .ok (.getfield 250, 3) := by decide +kernel
theorem dX10_leader_7 : decode cX10_leader 7 = .ok (.ireturn, 1) := by decide +kernel
theorem dX10_nextBid_0 : decode cX10_nextBid 0 = .ok (.aload_n 0, 1) := by decide +kernel
theorem dX10_nextBid_1 : decode cX10_nextBid 1 = .ok (.getfield 10, 3) := by decide +kernel
theorem dX10_nextBid_4 : decode cX10_nextBid 4 = .ok (.invokevirtual 253, 3) := by decide +kernel
theorem dX10_nextBid_7 : decode cX10_nextBid 7 = .ok (.ireturn, 1) := by decide +kernel
theorem dX10_quiet_0 : decode cX10_quiet 0 = .ok (.aload_n 0, 1) := by decide +kernel
theorem dX10_quiet_1 : decode cX10_quiet 1 = .ok (.getfield 10, 3) := by decide +kernel
theorem dX10_quiet_4 : decode cX10_quiet 4 = .ok (.getfield 256, 3) := by decide +kernel
theorem dX10_quiet_7 : decode cX10_quiet 7 = .ok (.ireturn, 1) := by decide +kernel
theorem dX10_queueLength_0 : decode cX10_queueLength 0 = .ok (.aload_n 0, 1) := by decide +kernel
theorem dX10_queueLength_1 : decode cX10_queueLength 1 = .ok (.getfield 10, 3) := by decide +kernel
theorem dX10_queueLength_4 : decode cX10_queueLength 4 = .ok (.getfield 178, 3) := by decide +kernel
theorem dX10_queueLength_7 : decode cX10_queueLength 7 = .ok (.ireturn, 1) := by decide +kernel
theorem dX10_queuedBarrel_0 : decode cX10_queuedBarrel 0 = .ok (.iload_n 1, 1) := by decide +kernel
theorem dX10_queuedBarrel_1 : decode cX10_queuedBarrel 1 = .ok (.ifCond .lt 14, 3) := by decide +kernel
theorem dX10_queuedBarrel_4 : decode cX10_queuedBarrel 4 = .ok (.iload_n 1, 1) := by decide +kernel
theorem dX10_queuedBarrel_5 : decode cX10_queuedBarrel 5 = .ok (.aload_n 0, 1) := by decide +kernel
theorem dX10_queuedBarrel_6 : decode cX10_queuedBarrel 6 = .ok (.getfield 10, 3) := by decide +kernel
theorem dX10_queuedBarrel_9 : decode cX10_queuedBarrel 9 = .ok (.getfield 178, 3) := by decide +kernel
theorem dX10_queuedBarrel_12 : decode cX10_queuedBarrel 12 = .ok (.if_icmp .lt 5, 3) := by decide +kernel
theorem dX10_queuedBarrel_15 : decode cX10_queuedBarrel 15 = .ok (.iconst (-1), 1) := by decide +kernel
theorem dX10_queuedBarrel_16 : decode cX10_queuedBarrel 16 = .ok (.ireturn, 1) := by decide +kernel
theorem dX10_queuedBarrel_17 : decode cX10_queuedBarrel 17 = .ok (.aload_n 0, 1) := by decide +kernel
theorem dX10_queuedBarrel_18 : decode cX10_queuedBarrel 18 = .ok (.getfield 10, 3) := by decide +kernel
theorem dX10_queuedBarrel_21 : decode cX10_queuedBarrel 21 = .ok (.getfield 259, 3) := by decide +kernel
theorem dX10_queuedBarrel_24 : decode cX10_queuedBarrel 24 = .ok (.iload_n 1, 1) := by decide +kernel
theorem dX10_queuedBarrel_25 : decode cX10_queuedBarrel 25 = .ok (.iaload, 1) := by decide +kernel
theorem dX10_queuedBarrel_26 : decode cX10_queuedBarrel 26 = .ok (.ireturn, 1) := by decide +kernel
theorem dX10_barrelCount_0 : decode cX10_barrelCount 0 = .ok (.aload_n 0, 1) := by decide +kernel
theorem dX10_barrelCount_1 : decode cX10_barrelCount 1 = .ok (.getfield 10, 3) := by decide +kernel
theorem dX10_barrelCount_4 : decode cX10_barrelCount 4 = .ok (.getfield 104, 3) := by decide +kernel
theorem dX10_barrelCount_7 : decode cX10_barrelCount 7 = .ok (.ireturn, 1) := by decide +kernel
theorem dX10_eels_0 : decode cX10_eels 0 = .ok (.aload_n 0, 1) := by decide +kernel
theorem dX10_eels_1 : decode cX10_eels 1 = .ok (.iload_n 1, 1) := by decide +kernel
theorem dX10_eels_2 : decode cX10_eels 2 = .ok (.invokevirtual 262, 3) := by decide +kernel
theorem dX10_eels_5 : decode cX10_eels 5 = .ok (.getfield 266, 3) := by decide +kernel
theorem dX10_eels_8 : decode cX10_eels 8 = .ok (.ireturn, 1) := by decide +kernel
theorem dX10_length_0 : decode cX10_length 0 = .ok (.aload_n 0, 1) := by decide +kernel
theorem dX10_length_1 : decode cX10_length 1 = .ok (.iload_n 1, 1) := by decide +kernel
theorem dX10_length_2 : decode cX10_length 2 = .ok (.invokevirtual 262, 3) := by decide +kernel
theorem dX10_length_5 : decode cX10_length 5 = .ok (.astore_n 3, 1) := by decide +kernel
theorem dX10_length_6 : decode cX10_length 6 = .ok (.iload_n 2, 1) := by decide +kernel
theorem dX10_length_7 : decode cX10_length 7 = .ok (.ifCond .lt 11, 3) := by decide +kernel
theorem dX10_length_10 : decode cX10_length 10 = .ok (.iload_n 2, 1) := by decide +kernel
theorem dX10_length_11 : decode cX10_length 11 = .ok (.aload_n 3, 1) := by decide +kernel
theorem dX10_length_12 : decode cX10_length 12 = .ok (.getfield 266, 3) := by decide +kernel
theorem dX10_length_15 : decode cX10_length 15 = .ok (.if_icmp .lt 14, 3) := by decide +kernel
theorem dX10_length_18 : decode cX10_length 18 = .ok (.new 269, 3) := by decide +kernel
theorem dX10_length_21 : decode cX10_length 21 = .ok (.dup, 1) := by decide +kernel
theorem dX10_length_22 : decode cX10_length 22 = .ok (.ldc_w 271, 3) := by decide +kernel
theorem dX10_length_25 : decode cX10_length 25 = .ok (.invokespecial 273, 3) := by decide +kernel
theorem dX10_length_28 : decode cX10_length 28 = .ok (.athrow, 1) := by decide +kernel
theorem dX10_length_29 : decode cX10_length 29 = .ok (.aload_n 3, 1) := by decide +kernel
theorem dX10_length_30 : decode cX10_length 30 = .ok (.getfield 274, 3) := by decide +kernel
theorem dX10_length_33 : decode cX10_length 33 = .ok (.iload_n 2, 1) := by decide +kernel
theorem dX10_length_34 : decode cX10_length 34 = .ok (.iaload, 1) := by decide +kernel
theorem dX10_length_35 : decode cX10_length 35 = .ok (.ireturn, 1) := by decide +kernel
theorem dX10_totalLength_0 : decode cX10_totalLength 0 = .ok (.aload_n 0, 1) := by decide +kernel
theorem dX10_totalLength_1 : decode cX10_totalLength 1 = .ok (.iload_n 1, 1) := by decide +kernel
theorem dX10_totalLength_2 : decode cX10_totalLength 2 = .ok (.invokevirtual 262, 3) := by decide +kernel
theorem dX10_totalLength_5 : decode cX10_totalLength 5 = .ok (.getfield 277, 3) := by decide +kernel
theorem dX10_totalLength_8 : decode cX10_totalLength 8 = .ok (.ireturn, 1) := by decide +kernel
theorem dX10_greatestLength_0 : decode cX10_greatestLength 0 = .ok (.aload_n 0, 1) := by decide +kernel
theorem dX10_greatestLength_1 : decode cX10_greatestLength 1 = .ok (.iload_n 1, 1) := by decide +kernel
theorem dX10_greatestLength_2 : decode cX10_greatestLength 2 = .ok (.invokevirtual 262, 3) := by decide +kernel
theorem dX10_greatestLength_5 : decode cX10_greatestLength 5 = .ok (.getfield 280, 3) := by decide +kernel
theorem dX10_greatestLength_8 : decode cX10_greatestLength 8 = .ok (.ireturn, 1) := by decide +kernel
theorem dX10_middleLength_0 : decode cX10_middleLength 0 = .ok (.aload_n 0, 1) := by decide +kernel
theorem dX10_middleLength_1 : decode cX10_middleLength 1 = .ok (.iload_n 1, 1) := by decide +kernel
theorem dX10_middleLength_2 : decode cX10_middleLength 2 = .ok (.invokevirtual 262, 3) := by decide +kernel
theorem dX10_middleLength_5 : decode cX10_middleLength 5 = .ok (.aload_n 0, 1) := by decide +kernel
theorem dX10_middleLength_6 : decode cX10_middleLength 6 = .ok (.iload_n 1, 1) := by decide +kernel
theorem dX10_middleLength_7 : decode cX10_middleLength 7 = .ok (.invokevirtual 262, 3) := by decide +kernel
theorem dX10_middleLength_10 : decode cX10_middleLength 10 = .ok (.getfield 266, 3) := by decide +kernel
theorem dX10_middleLength_13 : decode cX10_middleLength 13 = .ok (.iconst 1, 1) := by decide +kernel
theorem dX10_middleLength_14 : decode cX10_middleLength 14 = .ok (.isub, 1) := by decide +kernel
theorem dX10_middleLength_15 : decode cX10_middleLength 15 = .ok (.iconst 2, 1) := by decide +kernel
theorem dX10_middleLength_16 : decode cX10_middleLength 16 = .ok (.idiv, 1) := by decide +kernel
theorem dX10_middleLength_17 : decode cX10_middleLength 17 = .ok (.invokevirtual 283, 3) := by decide +kernel
theorem dX10_middleLength_20 : decode cX10_middleLength 20 = .ok (.ireturn, 1) := by decide +kernel
theorem dX10_reserve_0 : decode cX10_reserve 0 = .ok (.aload_n 0, 1) := by decide +kernel
theorem dX10_reserve_1 : decode cX10_reserve 1 = .ok (.iload_n 1, 1) := by decide +kernel
theorem dX10_reserve_2 : decode cX10_reserve 2 = .ok (.invokevirtual 262, 3) := by decide +kernel
theorem dX10_reserve_5 : decode cX10_reserve 5 = .ok (.getfield 198, 3) := by decide +kernel
theorem dX10_reserve_8 : decode cX10_reserve 8 = .ok (.ireturn, 1) := by decide +kernel
theorem dX10_stateOf_0 : decode cX10_stateOf 0 = .ok (.aload_n 0, 1) := by decide +kernel
theorem dX10_stateOf_1 : decode cX10_stateOf 1 = .ok (.iload_n 1, 1) := by decide +kernel
theorem dX10_stateOf_2 : decode cX10_stateOf 2 = .ok (.invokevirtual 262, 3) := by decide +kernel
theorem dX10_stateOf_5 : decode cX10_stateOf 5 = .ok (.getfield 286, 3) := by decide +kernel
theorem dX10_stateOf_8 : decode cX10_stateOf 8 = .ok (.ireturn, 1) := by decide +kernel
theorem dX10_returns_0 : decode cX10_returns 0 = .ok (.aload_n 0, 1) := by decide +kernel
theorem dX10_returns_1 : decode cX10_returns 1 = .ok (.iload_n 1, 1) := by decide +kernel
theorem dX10_returns_2 : decode cX10_returns 2 = .ok (.invokevirtual 262, 3) := by decide +kernel
theorem dX10_returns_5 : decode cX10_returns 5 = .ok (.getfield 289, 3) := by decide +kernel
theorem dX10_returns_8 : decode cX10_returns 8 = .ok (.ireturn, 1) := by decide +kernel
theorem dX10_buyerOf_0 : decode cX10_buyerOf 0 = .ok (.aload_n 0, 1) := by decide +kernel
theorem dX10_buyerOf_1 : decode cX10_buyerOf 1 = .ok (.iload_n 1, 1) := by decide +kernel
theorem dX10_buyerOf_2 : decode cX10_buyerOf 2 = .ok (.invokevirtual 262, 3) := by decide +kernel
theorem dX10_buyerOf_5 : decode cX10_buyerOf 5 = .ok (.getfield 292, 3) := by decide +kernel
theorem dX10_buyerOf_8 : decode cX10_buyerOf 8 = .ok (.ireturn, 1) := by decide +kernel
theorem dX10_priceOf_0 : decode cX10_priceOf 0 = .ok (.aload_n 0, 1) := by decide +kernel
theorem dX10_priceOf_1 : decode cX10_priceOf 1 = .ok (.iload_n 1, 1) := by decide +kernel
theorem dX10_priceOf_2 : decode cX10_priceOf 2 = .ok (.invokevirtual 262, 3) := by decide +kernel
theorem dX10_priceOf_5 : decode cX10_priceOf 5 = .ok (.getfield 295, 3) := by decide +kernel
theorem dX10_priceOf_8 : decode cX10_priceOf 8 = .ok (.ireturn, 1) := by decide +kernel
theorem dX10_pricePerLength_0 : decode cX10_pricePerLength 0 = .ok (.aload_n 0, 1) := by decide +kernel
theorem dX10_pricePerLength_1 : decode cX10_pricePerLength 1 = .ok (.iload_n 1, 1) := by decide +kernel
theorem dX10_pricePerLength_2 : decode cX10_pricePerLength 2 = .ok (.invokevirtual 262, 3) := by decide +kernel
theorem dX10_pricePerLength_5 : decode cX10_pricePerLength 5 = .ok (.astore_n 2, 1) := by decide +kernel
theorem dX10_pricePerLength_6 : decode cX10_pricePerLength 6 = .ok (.aload_n 2, 1) := by decide +kernel
theorem dX10_pricePerLength_7 : decode cX10_pricePerLength 7 = .ok (.getfield 286, 3) := by decide +kernel
theorem dX10_pricePerLength_10 : decode cX10_pricePerLength 10 = .ok (.iconst 2, 1) := by decide +kernel
theorem dX10_pricePerLength_11 : decode cX10_pricePerLength 11 = .ok (.if_icmp .ne 10, 3) := by decide +kernel
theorem dX10_pricePerLength_14 : decode cX10_pricePerLength 14 = .ok (.aload_n 2, 1) := by decide +kernel
theorem dX10_pricePerLength_15 : decode cX10_pricePerLength 15 = .ok (.getfield 277, 3) := by decide +kernel
theorem dX10_pricePerLength_18 : decode cX10_pricePerLength 18 = .ok (.ifCond .ne 5, 3) := by decide +kernel
theorem dX10_pricePerLength_21 : decode cX10_pricePerLength 21 = .ok (.fconst 0, 1) := by decide +kernel
theorem dX10_pricePerLength_22 : decode cX10_pricePerLength 22 = .ok (.freturn, 1) := by decide +kernel
theorem dX10_pricePerLength_23 : decode cX10_pricePerLength 23 = .ok (.aload_n 2, 1) := by decide +kernel
theorem dX10_pricePerLength_24 : decode cX10_pricePerLength 24 = .ok (.getfield 295, 3) := by decide +kernel
theorem dX10_pricePerLength_27 : decode cX10_pricePerLength 27 = .ok (.i2f, 1) := by decide +kernel
theorem dX10_pricePerLength_28 : decode cX10_pricePerLength 28 = .ok (.aload_n 2, 1) := by decide +kernel
theorem dX10_pricePerLength_29 : decode cX10_pricePerLength 29 = .ok (.getfield 277, 3) := by decide +kernel
theorem dX10_pricePerLength_32 : decode cX10_pricePerLength 32 = .ok (.i2f, 1) := by decide +kernel
theorem dX10_pricePerLength_33 : decode cX10_pricePerLength 33 = .ok (.fdiv, 1) := by decide +kernel
theorem dX10_pricePerLength_34 : decode cX10_pricePerLength 34 = .ok (.freturn, 1) := by decide +kernel
theorem dX10_buyerCount_0 : decode cX10_buyerCount 0 = .ok (.aload_n 0, 1) := by decide +kernel
theorem dX10_buyerCount_1 : decode cX10_buyerCount 1 = .ok (.getfield 10, 3) := by decide +kernel
theorem dX10_buyerCount_4 : decode cX10_buyerCount 4 = .ok (.getfield 107, 3) := by decide +kernel
theorem dX10_buyerCount_7 : decode cX10_buyerCount 7 = .ok (.ireturn, 1) := by decide +kernel
theorem dX10_purse_0 : decode cX10_purse 0 = .ok (.aload_n 0, 1) := by decide +kernel
theorem dX10_purse_1 : decode cX10_purse 1 = .ok (.iload_n 1, 1) := by decide +kernel
theorem dX10_purse_2 : decode cX10_purse 2 = .ok (.invokevirtual 298, 3) := by decide +kernel
theorem dX10_purse_5 : decode cX10_purse 5 = .ok (.getfield 189, 3) := by decide +kernel
theorem dX10_purse_8 : decode cX10_purse 8 = .ok (.ireturn, 1) := by decide +kernel
theorem dX10_style_0 : decode cX10_style 0 = .ok (.aload_n 0, 1) := by decide +kernel
theorem dX10_style_1 : decode cX10_style 1 = .ok (.iload_n 1, 1) := by decide +kernel
theorem dX10_style_2 : decode cX10_style 2 = .ok (.invokevirtual 298, 3) := by decide +kernel
theorem dX10_style_5 : decode cX10_style 5 = .ok (.getfield 206, 3) := by decide +kernel
theorem dX10_style_8 : decode cX10_style 8 = .ok (.ireturn, 1) := by decide +kernel
theorem dX10_factor_0 : decode cX10_factor 0 = .ok (.aload_n 0, 1) := by decide +kernel
theorem dX10_factor_1 : decode cX10_factor 1 = .ok (.iload_n 1, 1) := by decide +kernel
theorem dX10_factor_2 : decode cX10_factor 2 = .ok (.invokevirtual 298, 3) := by decide +kernel
theorem dX10_factor_5 : decode cX10_factor 5 = .ok (.getfield 209, 3) := by decide +kernel
theorem dX10_factor_8 : decode cX10_factor 8 = .ok (.ireturn, 1) := by decide +kernel
theorem dX10_bought_0 : decode cX10_bought 0 = .ok (.aload_n 0, 1) := by decide +kernel
theorem dX10_bought_1 : decode cX10_bought 1 = .ok (.iload_n 1, 1) := by decide +kernel
theorem dX10_bought_2 : decode cX10_bought 2 = .ok (.invokevirtual 298, 3) := by decide +kernel
theorem dX10_bought_5 : decode cX10_bought 5 = .ok (.getfield 302, 3) := by decide +kernel
theorem dX10_bought_8 : decode cX10_bought 8 = .ok (.ireturn, 1) := by decide +kernel
theorem dX10_nods_0 : decode cX10_nods 0 = .ok (.aload_n 0, 1) := by decide +kernel
theorem dX10_nods_1 : decode cX10_nods 1 = .ok (.iload_n 1, 1) := by decide +kernel
theorem dX10_nods_2 : decode cX10_nods 2 = .ok (.invokevirtual 298, 3) := by decide +kernel
theorem dX10_nods_5 : decode cX10_nods 5 = .ok (.getfield 305, 3) := by decide +kernel
theorem dX10_nods_8 : decode cX10_nods 8 = .ok (.ireturn, 1) := by decide +kernel
theorem dX10_worth_0 : decode cX10_worth 0 = .ok (.aload_n 0, 1) := by decide +kernel
theorem dX10_worth_1 : decode cX10_worth 1 = .ok (.iload_n 1, 1) := by decide +kernel
theorem dX10_worth_2 : decode cX10_worth 2 = .ok (.invokevirtual 298, 3) := by decide +kernel
theorem dX10_worth_5 : decode cX10_worth 5 = .ok (.aload_n 0, 1) := by decide +kernel
theorem dX10_worth_6 : decode cX10_worth 6 = .ok (.iload_n 2, 1) := by decide +kernel
theorem dX10_worth_7 : decode cX10_worth 7 = .ok (.invokevirtual 262, 3) := by decide +kernel
theorem dX10_worth_10 : decode cX10_worth 10 = .ok (.invokevirtual 308, 3) := by decide +kernel
theorem dX10_worth_13 : decode cX10_worth 13 = .ok (.dreturn, 1) := by decide +kernel
theorem dX10_whyNotNod_0 : decode cX10_whyNotNod 0 = .ok (.aload_n 0, 1) := by decide +kernel
theorem dX10_whyNotNod_1 : decode cX10_whyNotNod 1 = .ok (.iload_n 1, 1) := by decide +kernel
theorem dX10_whyNotNod_2 : decode cX10_whyNotNod 2 = .ok (.invokevirtual 127, 3) := by decide +kernel
theorem dX10_whyNotNod_5 : decode cX10_whyNotNod 5 = .ok (.aload_n 0, 1) := by decide +kernel
theorem dX10_whyNotNod_6 : decode cX10_whyNotNod 6 = .ok (.getfield 10, 3) := by decide +kernel
theorem dX10_whyNotNod_9 : decode cX10_whyNotNod 9 = .ok (.iload_n 1, 1) := by decide +kernel
theorem dX10_whyNotNod_10 : decode cX10_whyNotNod 10 = .ok (.invokevirtual 130, 3) := by decide +kernel
theorem dX10_whyNotNod_13 : decode cX10_whyNotNod 13 = .ok (.ireturn, 1) := by decide +kernel
theorem dX10_nextNodder_0 : decode cX10_nextNodder 0 = .ok (.aload_n 0, 1) := by decide +kernel
theorem dX10_nextNodder_1 : decode cX10_nextNodder 1 = .ok (.getfield 10, 3) := by decide +kernel
theorem dX10_nextNodder_4 : decode cX10_nextNodder 4 = .ok (.invokevirtual 315, 3) := by decide +kernel
theorem dX10_nextNodder_7 : decode cX10_nextNodder 7 = .ok (.ireturn, 1) := by decide +kernel
theorem dX10_keenestBuyer_0 : decode cX10_keenestBuyer 0 = .ok (.aload_n 0, 1) := by decide +kernel
theorem dX10_keenestBuyer_1 : decode cX10_keenestBuyer 1 = .ok (.getfield 10, 3) := by decide +kernel
theorem dX10_keenestBuyer_4 : decode cX10_keenestBuyer 4 = .ok (.aload_n 0, 1) := by decide +kernel
theorem dX10_keenestBuyer_5 : decode cX10_keenestBuyer 5 = .ok (.iload_n 1, 1) := by decide +kernel
theorem dX10_keenestBuyer_6 : decode cX10_keenestBuyer 6 = .ok (.invokevirtual 262, 3) := by decide +kernel
theorem dX10_keenestBuyer_9 : decode cX10_keenestBuyer 9 = .ok (.invokevirtual 318, 3) := by decide +kernel
theorem dX10_keenestBuyer_12 : decode cX10_keenestBuyer 12 = .ok (.ireturn, 1) := by decide +kernel
theorem dX10_minutesToSale_0 : decode cX10_minutesToSale 0 = .ok (.aload_n 0, 1) := by decide +kernel
theorem dX10_minutesToSale_1 : decode cX10_minutesToSale 1 = .ok (.iload_n 1, 1) := by decide +kernel
theorem dX10_minutesToSale_2 : decode cX10_minutesToSale 2 = .ok (.invokevirtual 262, 3) := by decide +kernel
theorem dX10_minutesToSale_5 : decode cX10_minutesToSale 5 = .ok (.getfield 286, 3) := by decide +kernel
theorem dX10_minutesToSale_8 : decode cX10_minutesToSale 8 = .ok (.iconst 2, 1) := by decide +kernel
theorem dX10_minutesToSale_9 : decode cX10_minutesToSale 9 = .ok (.if_icmp .ne 5, 3) := by decide +kernel
theorem dX10_minutesToSale_12 : decode cX10_minutesToSale 12 = .ok (.iconst 0, 1) := by decide +kernel
theorem dX10_minutesToSale_13 : decode cX10_minutesToSale 13 = .ok (.ireturn, 1) := by decide +kernel
theorem dX10_minutesToSale_14 : decode cX10_minutesToSale 14 = .ok (.aload_n 0, 1) := by decide +kernel
theorem dX10_minutesToSale_15 : decode cX10_minutesToSale 15 = .ok (.getfield 16, 3) := by decide +kernel
theorem dX10_minutesToSale_18 : decode cX10_minutesToSale 18 = .ok (.aload_n 0, 1) := by decide +kernel
theorem dX10_minutesToSale_19 : decode cX10_minutesToSale 19 = .ok (.getfield 10, 3) := by decide +kernel
theorem dX10_minutesToSale_22 : decode cX10_minutesToSale 22 = .ok (.invokevirtual 101, 3) := by decide +kernel
theorem dX10_minutesToSale_25 : decode cX10_minutesToSale 25 = .ok (.aload_n 0, 1) := by decide +kernel
theorem dX10_minutesToSale_26 : decode cX10_minutesToSale 26 = .ok (.getfield 16, 3) := by decide +kernel
theorem dX10_minutesToSale_29 : decode cX10_minutesToSale 29 = .ok (.getfield 194, 3) := by decide +kernel
theorem dX10_minutesToSale_32 : decode cX10_minutesToSale 32 = .ok (.iload_n 1, 1) := by decide +kernel
theorem dX10_minutesToSale_33 : decode cX10_minutesToSale 33 = .ok (.aaload, 1) := by decide +kernel
theorem dX10_minutesToSale_34 : decode cX10_minutesToSale 34 = .ok (.astore_n 2, 1) := by decide +kernel
theorem dX10_minutesToSale_35 : decode cX10_minutesToSale 35 = .ok (.iconst 1, 1) := by decide +kernel
theorem dX10_minutesToSale_36 : decode cX10_minutesToSale 36 = .ok (.istore_n 3, 1) := by decide +kernel
theorem dX10_minutesToSale_37 : decode cX10_minutesToSale 37 = .ok (.iload_n 3, 1) := by decide +kernel
theorem dX10_minutesToSale_38 : decode cX10_minutesToSale 38 = .ok (.sipush 500, 3) := by decide +kernel
theorem dX10_minutesToSale_41 : decode cX10_minutesToSale 41 = .ok (.if_icmp .gt 28, 3) := by decide +kernel
theorem dX10_minutesToSale_44 : decode cX10_minutesToSale 44 = .ok (.aload_n 0, 1) := by decide +kernel
theorem dX10_minutesToSale_45 : decode cX10_minutesToSale 45 = .ok (.getfield 16, 3) := by decide +kernel
theorem dX10_minutesToSale_48 : decode cX10_minutesToSale 48 = .ok (.iconst 1, 1) := by decide +kernel
theorem dX10_minutesToSale_49 : decode cX10_minutesToSale 49 = .ok (.invokevirtual 144, 3) := by decide +kernel
theorem dX10_minutesToSale_52 : decode cX10_minutesToSale 52 = .ok (.pop, 1) := by decide +kernel
theorem dX10_minutesToSale_53 : decode cX10_minutesToSale 53 = .ok (.aload_n 2, 1) := by decide +kernel
theorem dX10_minutesToSale_54 : decode cX10_minutesToSale 54 = .ok (.getfield 286, 3) := by decide +kernel
theorem dX10_minutesToSale_57 : decode cX10_minutesToSale 57 = .ok (.iconst 2, 1) := by decide +kernel
theorem dX10_minutesToSale_58 : decode cX10_minutesToSale 58 = .ok (.if_icmp .ne 5, 3) := by decide +kernel
theorem dX10_minutesToSale_61 : decode cX10_minutesToSale 61 = .ok (.iload_n 3, 1) := by decide +kernel
theorem dX10_minutesToSale_62 : decode cX10_minutesToSale 62 = .ok (.ireturn, 1) := by decide +kernel
theorem dX10_minutesToSale_63 : decode cX10_minutesToSale 63 = .ok (.iinc 3 1, 3) := by decide +kernel
theorem dX10_minutesToSale_66 : decode cX10_minutesToSale 66 = .ok (.goto (-29), 3) := by decide +kernel
theorem dX10_minutesToSale_69 : decode cX10_minutesToSale 69 = .ok (.iconst (-1), 1) := by decide +kernel
theorem dX10_minutesToSale_70 : decode cX10_minutesToSale 70 = .ok (.ireturn, 1) := by decide +kernel
theorem dX10_buyerAfter_0 : decode cX10_buyerAfter 0 = .ok (.aload_n 0, 1) := by decide +kernel
theorem dX10_buyerAfter_1 : decode cX10_buyerAfter 1 = .ok (.iload_n 1, 1) := by decide +kernel
theorem dX10_buyerAfter_2 : decode cX10_buyerAfter 2 = .ok (.invokevirtual 161, 3) := by decide +kernel
theorem dX10_buyerAfter_5 : decode cX10_buyerAfter 5 = .ok (.iload_n 2, 1) := by decide +kernel
theorem dX10_buyerAfter_6 : decode cX10_buyerAfter 6 = .ok (.iconst 0, 1) := by decide +kernel
theorem dX10_buyerAfter_7 : decode cX10_buyerAfter 7 = .ok (.sipush 500, 3) := by decide +kernel
theorem dX10_buyerAfter_10 : decode cX10_buyerAfter 10 = .ok (.invokestatic 82, 3) := by decide +kernel
theorem dX10_buyerAfter_13 : decode cX10_buyerAfter 13 = .ok (.aload_n 0, 1) := by decide +kernel
theorem dX10_buyerAfter_14 : decode cX10_buyerAfter 14 = .ok (.aload_n 0, 1) := by decide +kernel
theorem dX10_buyerAfter_15 : decode cX10_buyerAfter 15 = .ok (.getfield 10, 3) := by decide +kernel
theorem dX10_buyerAfter_18 : decode cX10_buyerAfter 18 = .ok (.getfield 203, 3) := by decide +kernel
theorem dX10_buyerAfter_21 : decode cX10_buyerAfter 21 = .ok (.iload_n 2, 1) := by decide +kernel
theorem dX10_buyerAfter_22 : decode cX10_buyerAfter 22 = .ok (.invokevirtual 322, 3) := by decide +kernel
theorem dX10_buyerAfter_25 : decode cX10_buyerAfter 25 = .ok (.aload_n 0, 1) := by decide +kernel
theorem dX10_buyerAfter_26 : decode cX10_buyerAfter 26 = .ok (.getfield 16, 3) := by decide +kernel
theorem dX10_buyerAfter_29 : decode cX10_buyerAfter 29 = .ok (.getfield 194, 3) := by decide +kernel
theorem dX10_buyerAfter_32 : decode cX10_buyerAfter 32 = .ok (.iload_n 1, 1) := by decide +kernel
theorem dX10_buyerAfter_33 : decode cX10_buyerAfter 33 = .ok (.aaload, 1) := by decide +kernel
theorem dX10_buyerAfter_34 : decode cX10_buyerAfter 34 = .ok (.getfield 292, 3) := by decide +kernel
theorem dX10_buyerAfter_37 : decode cX10_buyerAfter 37 = .ok (.ireturn, 1) := by decide +kernel
theorem dX10_sellerCoinsAfter_0 : decode cX10_sellerCoinsAfter 0 = .ok (.iload_n 1, 1) := by decide +kernel
theorem dX10_sellerCoinsAfter_1 : decode cX10_sellerCoinsAfter 1 = .ok (.iconst 0, 1) := by decide +kernel
theorem dX10_sellerCoinsAfter_2 : decode cX10_sellerCoinsAfter 2 = .ok (.sipush 500, 3) := by decide +kernel
theorem dX10_sellerCoinsAfter_5 : decode cX10_sellerCoinsAfter 5 = .ok (.invokestatic 82, 3) := by decide +kernel
theorem dX10_sellerCoinsAfter_8 : decode cX10_sellerCoinsAfter 8 = .ok (.aload_n 0, 1) := by decide +kernel
theorem dX10_sellerCoinsAfter_9 : decode cX10_sellerCoinsAfter 9 = .ok (.aload_n 0, 1) := by decide +kernel
theorem dX10_sellerCoinsAfter_10 : decode cX10_sellerCoinsAfter 10 = .ok (.getfield 10, 3) := by decide +kernel
theorem dX10_sellerCoinsAfter_13 : decode cX10_sellerCoinsAfter 13 = .ok (.getfield 203, 3) := by decide +kernel
theorem dX10_sellerCoinsAfter_16 : decode cX10_sellerCoinsAfter 16 = .ok (.iload_n 1, 1) := by decide +kernel
theorem dX10_sellerCoinsAfter_17 : decode cX10_sellerCoinsAfter 17 = .ok (.invokevirtual 322, 3) := by decide +kernel
theorem dX10_sellerCoinsAfter_20 : decode cX10_sellerCoinsAfter 20 = .ok (.aload_n 0, 1) := by decide +kernel
theorem dX10_sellerCoinsAfter_21 : decode cX10_sellerCoinsAfter 21 = .ok (.getfield 16, 3) := by decide +kernel
theorem dX10_sellerCoinsAfter_24 : decode cX10_sellerCoinsAfter 24 = .ok (.getfield 241, 3) := by decide +kernel
theorem dX10_sellerCoinsAfter_27 : decode cX10_sellerCoinsAfter 27 = .ok (.ireturn, 1) := by decide +kernel
theorem dX10_coinError_0 : decode cX10_coinError 0 = .ok (.aload_n 0, 1) := by decide +kernel
theorem dX10_coinError_1 : decode cX10_coinError 1 = .ok (.getfield 10, 3) := by decide +kernel
theorem dX10_coinError_4 : decode cX10_coinError 4 = .ok (.getfield 325, 3) := by decide +kernel
theorem dX10_coinError_7 : decode cX10_coinError 7 = .ok (.aload_n 0, 1) := by decide +kernel
theorem dX10_coinError_8 : decode cX10_coinError 8 = .ok (.getfield 10, 3) := by decide +kernel
theorem dX10_coinError_11 : decode cX10_coinError 11 = .ok (.invokevirtual 328, 3) := by decide +kernel
theorem dX10_coinError_14 : decode cX10_coinError 14 = .ok (.isub, 1) := by decide +kernel
theorem dX10_coinError_15 : decode cX10_coinError 15 = .ok (.aload_n 0, 1) := by decide +kernel
theorem dX10_coinError_16 : decode cX10_coinError 16 = .ok (.getfield 10, 3) := by decide +kernel
theorem dX10_coinError_19 : decode cX10_coinError 19 = .ok (.getfield 241, 3) := by decide +kernel
theorem dX10_coinError_22 : decode cX10_coinError 22 = .ok (.isub, 1) := by decide +kernel
theorem dX10_coinError_23 : decode cX10_coinError 23 = .ok (.aload_n 0, 1) := by decide +kernel
theorem dX10_coinError_24 : decode cX10_coinError 24 = .ok (.getfield 10, 3) := by decide +kernel
theorem dX10_coinError_27 : decode cX10_coinError 27 = .ok (.getfield 244, 3) := by decide +kernel
theorem dX10_coinError_30 : decode cX10_coinError 30 = .ok (.isub, 1) := by decide +kernel
theorem dX10_coinError_31 : decode cX10_coinError 31 = .ok (.ireturn, 1) := by decide +kernel
theorem dX10_meanLength_0 : decode cX10_meanLength 0 = .ok (.iconst 0, 1) := by decide +kernel
theorem dX10_meanLength_1 : decode cX10_meanLength 1 = .ok (.istore_n 1, 1) := by decide +kernel
theorem dX10_meanLength_2 : decode cX10_meanLength 2 = .ok (.iconst 0, 1) := by decide +kernel
theorem dX10_meanLength_3 : decode cX10_meanLength 3 = .ok (.istore_n 2, 1) := by decide +kernel
theorem dX10_meanLength_4 : decode cX10_meanLength 4 = .ok (.iconst 0, 1) := by decide +kernel
theorem dX10_meanLength_5 : decode cX10_meanLength 5 = .ok (.istore_n 3, 1) := by decide +kernel
theorem dX10_meanLength_6 : decode cX10_meanLength 6 = .ok (.iload_n 3, 1) := by decide +kernel
theorem dX10_meanLength_7 : decode cX10_meanLength 7 = .ok (.aload_n 0, 1) := by decide +kernel
theorem dX10_meanLength_8 : decode cX10_meanLength 8 = .ok (.getfield 10, 3) := by decide +kernel
theorem dX10_meanLength_11 : decode cX10_meanLength 11 = .ok (.getfield 104, 3) := by decide +kernel
theorem dX10_meanLength_14 : decode cX10_meanLength 14 = .ok (.if_icmp .ge 39, 3) := by decide +kernel
theorem dX10_meanLength_17 : decode cX10_meanLength 17 = .ok (.iload_n 1, 1) := by decide +kernel
theorem dX10_meanLength_18 : decode cX10_meanLength 18 = .ok (.aload_n 0, 1) := by decide +kernel
theorem dX10_meanLength_19 : decode cX10_meanLength 19 = .ok (.getfield 10, 3) := by decide +kernel
theorem dX10_meanLength_22 : decode cX10_meanLength 22 = .ok (.getfield 194, 3) := by decide +kernel
theorem dX10_meanLength_25 : decode cX10_meanLength 25 = .ok (.iload_n 3, 1) := by decide +kernel
theorem dX10_meanLength_26 : decode cX10_meanLength 26 = .ok (.aaload, 1) := by decide +kernel
theorem dX10_meanLength_27 : decode cX10_meanLength 27 = .ok (.getfield 277, 3) := by decide +kernel
theorem dX10_meanLength_30 : decode cX10_meanLength 30 = .ok (.iadd, 1) := by decide +kernel
theorem dX10_meanLength_31 : decode cX10_meanLength 31 = .ok (.istore_n 1, 1) := by decide +kernel
theorem dX10_meanLength_32 : decode cX10_meanLength 32 = .ok (.iload_n 2, 1) := by decide +kernel
theorem dX10_meanLength_33 : decode cX10_meanLength 33 = .ok (.aload_n 0, 1) := by decide +kernel
theorem dX10_meanLength_34 : decode cX10_meanLength 34 = .ok (.getfield 10, 3) := by decide +kernel
theorem dX10_meanLength_37 : decode cX10_meanLength 37 = .ok (.getfield 194, 3) := by decide +kernel
theorem dX10_meanLength_40 : decode cX10_meanLength 40 = .ok (.iload_n 3, 1) := by decide +kernel
theorem dX10_meanLength_41 : decode cX10_meanLength 41 = .ok (.aaload, 1) := by decide +kernel
theorem dX10_meanLength_42 : decode cX10_meanLength 42 = .ok (.getfield 266, 3) := by decide +kernel
theorem dX10_meanLength_45 : decode cX10_meanLength 45 = .ok (.iadd, 1) := by decide +kernel
theorem dX10_meanLength_46 : decode cX10_meanLength 46 = .ok (.istore_n 2, 1) := by decide +kernel
theorem dX10_meanLength_47 : decode cX10_meanLength 47 = .ok (.iinc 3 1, 3) := by decide +kernel
theorem dX10_meanLength_50 : decode cX10_meanLength 50 = .ok (.goto (-44), 3) := by decide +kernel
theorem dX10_meanLength_53 : decode cX10_meanLength 53 = .ok (.iload_n 2, 1) := by decide +kernel
theorem dX10_meanLength_54 : decode cX10_meanLength 54 = .ok (.ifCond .ne 7, 3) := by decide +kernel
theorem dX10_meanLength_57 : decode cX10_meanLength 57 = .ok (.dconst 0, 1) := by decide +kernel
theorem dX10_meanLength_58 : decode cX10_meanLength 58 = .ok (.goto 8, 3) := by decide +kernel
theorem dX10_meanLength_61 : decode cX10_meanLength 61 = .ok (.iload_n 1, 1) := by decide +kernel
theorem dX10_meanLength_62 : decode cX10_meanLength 62 = .ok (.i2d, 1) := by decide +kernel
theorem dX10_meanLength_63 : decode cX10_meanLength 63 = .ok (.iload_n 2, 1) := by decide +kernel
theorem dX10_meanLength_64 : decode cX10_meanLength 64 = .ok (.i2d, 1) := by decide +kernel
theorem dX10_meanLength_65 : decode cX10_meanLength 65 = .ok (.ddiv, 1) := by decide +kernel
theorem dX10_meanLength_66 : decode cX10_meanLength 66 = .ok (.dreturn, 1) := by decide +kernel
theorem dX10_soldShare_0 : decode cX10_soldShare 0 = .ok (.iconst 0, 1) := by decide +kernel
theorem dX10_soldShare_1 : decode cX10_soldShare 1 = .ok (.istore_n 1, 1) := by decide +kernel
theorem dX10_soldShare_2 : decode cX10_soldShare 2 = .ok (.iconst 0, 1) := by decide +kernel
theorem dX10_soldShare_3 : decode cX10_soldShare 3 = .ok (.istore_n 2, 1) := by decide +kernel
theorem dX10_soldShare_4 : decode cX10_soldShare 4 = .ok (.iload_n 2, 1) := by decide +kernel
theorem dX10_soldShare_5 : decode cX10_soldShare 5 = .ok (.aload_n 0, 1) := by decide +kernel
theorem dX10_soldShare_6 : decode cX10_soldShare 6 = .ok (.getfield 10, 3) := by decide +kernel
theorem dX10_soldShare_9 : decode cX10_soldShare 9 = .ok (.getfield 104, 3) := by decide +kernel
theorem dX10_soldShare_12 : decode cX10_soldShare 12 = .ok (.if_icmp .ge 28, 3) := by decide +kernel
theorem dX10_soldShare_15 : decode cX10_soldShare 15 = .ok (.aload_n 0, 1) := by decide +kernel
theorem dX10_soldShare_16 : decode cX10_soldShare 16 = .ok (.getfield 10, 3) := by decide +kernel
theorem dX10_soldShare_19 : decode cX10_soldShare 19 = .ok (.getfield 194, 3) := by decide +kernel
theorem dX10_soldShare_22 : decode cX10_soldShare 22 = .ok (.iload_n 2, 1) := by decide +kernel
theorem dX10_soldShare_23 : decode cX10_soldShare 23 = .ok (.aaload, 1) := by decide +kernel
theorem dX10_soldShare_24 : decode cX10_soldShare 24 = .ok (.getfield 286, 3) := by decide +kernel
theorem dX10_soldShare_27 : decode cX10_soldShare 27 = .ok (.iconst 2, 1) := by decide +kernel
theorem dX10_soldShare_28 : decode cX10_soldShare 28 = .ok (.if_icmp .ne 6, 3) := by decide +kernel
theorem dX10_soldShare_31 : decode cX10_soldShare 31 = .ok (.iinc 1 1, 3) := by decide +kernel
theorem dX10_soldShare_34 : decode cX10_soldShare 34 = .ok (.iinc 2 1, 3) := by decide +kernel
theorem dX10_soldShare_37 : decode cX10_soldShare 37 = .ok (.goto (-33), 3) := by decide +kernel
theorem dX10_soldShare_40 : decode cX10_soldShare 40 = .ok (.aload_n 0, 1) := by decide +kernel
theorem dX10_soldShare_41 : decode cX10_soldShare 41 = .ok (.getfield 10, 3) := by decide +kernel
theorem dX10_soldShare_44 : decode cX10_soldShare 44 = .ok (.getfield 104, 3) := by decide +kernel
theorem dX10_soldShare_47 : decode cX10_soldShare 47 = .ok (.ifCond .ne 7, 3) := by decide +kernel
theorem dX10_soldShare_50 : decode cX10_soldShare 50 = .ok (.fconst 0, 1) := by decide +kernel
theorem dX10_soldShare_51 : decode cX10_soldShare 51 = .ok (.goto 14, 3) := by decide +kernel
theorem dX10_soldShare_54 : decode cX10_soldShare 54 = .ok (.iload_n 1, 1) := by decide +kernel
theorem dX10_soldShare_55 : decode cX10_soldShare 55 = .ok (.i2f, 1) := by decide +kernel
theorem dX10_soldShare_56 : decode cX10_soldShare 56 = .ok (.aload_n 0, 1) := by decide +kernel
theorem dX10_soldShare_57 : decode cX10_soldShare 57 = .ok (.getfield 10, 3) := by decide +kernel
theorem dX10_soldShare_60 : decode cX10_soldShare 60 = .ok (.getfield 104, 3) := by decide +kernel
theorem dX10_soldShare_63 : decode cX10_soldShare 63 = .ok (.i2f, 1) := by decide +kernel
theorem dX10_soldShare_64 : decode cX10_soldShare 64 = .ok (.fdiv, 1) := by decide +kernel
theorem dX10_soldShare_65 : decode cX10_soldShare 65 = .ok (.freturn, 1) := by decide +kernel
theorem dX10_foresee_0 : decode cX10_foresee 0 = .ok (.aload_n 0, 1) := by decide +kernel
theorem dX10_foresee_1 : decode cX10_foresee 1 = .ok (.getfield 16, 3) := by decide +kernel
theorem dX10_foresee_4 : decode cX10_foresee 4 = .ok (.aload_n 0, 1) := by decide +kernel
theorem dX10_foresee_5 : decode cX10_foresee 5 = .ok (.getfield 10, 3) := by decide +kernel
theorem dX10_foresee_8 : decode cX10_foresee 8 = .ok (.invokevirtual 101, 3) := by decide +kernel
theorem dX10_foresee_11 : decode cX10_foresee 11 = .ok (.aload_n 0, 1) := by decide +kernel
theorem dX10_foresee_12 : decode cX10_foresee 12 = .ok (.getfield 16, 3) := by decide +kernel
theorem dX10_foresee_15 : decode cX10_foresee 15 = .ok (.iload_n 1, 1) := by decide +kernel
theorem dX10_foresee_16 : decode cX10_foresee 16 = .ok (.putfield 203, 3) := by decide +kernel
theorem dX10_foresee_19 : decode cX10_foresee 19 = .ok (.aload_n 0, 1) := by decide +kernel
theorem dX10_foresee_20 : decode cX10_foresee 20 = .ok (.getfield 16, 3) := by decide +kernel
theorem dX10_foresee_23 : decode cX10_foresee 23 = .ok (.iload_n 2, 1) := by decide +kernel
theorem dX10_foresee_24 : decode cX10_foresee 24 = .ok (.invokevirtual 144, 3) := by decide +kernel
theorem dX10_foresee_27 : decode cX10_foresee 27 = .ok (.pop, 1) := by decide +kernel
theorem dX10_foresee_28 : decode cX10_foresee 28 = .ok (.return_, 1) := by decide +kernel
theorem dX10_barrelAt_0 : decode cX10_barrelAt 0 = .ok (.aload_n 0, 1) := by decide +kernel
theorem dX10_barrelAt_1 : decode cX10_barrelAt 1 = .ok (.iload_n 1, 1) := by decide +kernel
theorem dX10_barrelAt_2 : decode cX10_barrelAt 2 = .ok (.invokevirtual 161, 3) := by decide +kernel
theorem dX10_barrelAt_5 : decode cX10_barrelAt 5 = .ok (.aload_n 0, 1) := by decide +kernel
theorem dX10_barrelAt_6 : decode cX10_barrelAt 6 = .ok (.getfield 10, 3) := by decide +kernel
theorem dX10_barrelAt_9 : decode cX10_barrelAt 9 = .ok (.getfield 194, 3) := by decide +kernel
theorem dX10_barrelAt_12 : decode cX10_barrelAt 12 = .ok (.iload_n 1, 1) := by decide +kernel
theorem dX10_barrelAt_13 : decode cX10_barrelAt 13 = .ok (.aaload, 1) := by decide +kernel
theorem dX10_barrelAt_14 : decode cX10_barrelAt 14 = .ok (.areturn, 1) := by decide +kernel
theorem dX10_buyerAt_0 : decode cX10_buyerAt 0 = .ok (.aload_n 0, 1) := by decide +kernel
theorem dX10_buyerAt_1 : decode cX10_buyerAt 1 = .ok (.iload_n 1, 1) := by decide +kernel
theorem dX10_buyerAt_2 : decode cX10_buyerAt 2 = .ok (.invokevirtual 127, 3) := by decide +kernel
theorem dX10_buyerAt_5 : decode cX10_buyerAt 5 = .ok (.aload_n 0, 1) := by decide +kernel
theorem dX10_buyerAt_6 : decode cX10_buyerAt 6 = .ok (.getfield 10, 3) := by decide +kernel
theorem dX10_buyerAt_9 : decode cX10_buyerAt 9 = .ok (.getfield 185, 3) := by decide +kernel
theorem dX10_buyerAt_12 : decode cX10_buyerAt 12 = .ok (.iload_n 1, 1) := by decide +kernel
theorem dX10_buyerAt_13 : decode cX10_buyerAt 13 = .ok (.aaload, 1) := by decide +kernel
theorem dX10_buyerAt_14 : decode cX10_buyerAt 14 = .ok (.areturn, 1) := by decide +kernel
theorem dX10_requireBarrel_0 : decode cX10_requireBarrel 0 = .ok (.aload_n 0, 1) := by decide +kernel
theorem dX10_requireBarrel_1 : decode cX10_requireBarrel 1 = .ok (.getfield 10, 3) := by decide +kernel
theorem dX10_requireBarrel_4 : decode cX10_requireBarrel 4 = .ok (.iload_n 1, 1) := by decide +kernel
theorem dX10_requireBarrel_5 : decode cX10_requireBarrel 5 = .ok (.invokevirtual 351, 3) := by decide +kernel
theorem dX10_requireBarrel_8 : decode cX10_requireBarrel 8 = .ok (.ifCond .ne 14, 3) := by decide +kernel
theorem dX10_requireBarrel_11 : decode cX10_requireBarrel 11 = .ok (.new 269, 3) := by decide +kernel
theorem dX10_requireBarrel_14 : decode cX10_requireBarrel 14 = .ok (.dup, 1) := by decide +kernel
theorem dX10_requireBarrel_15 : decode cX10_requireBarrel 15 = .ok (.ldc_w 354, 3) := by decide +kernel
theorem dX10_requireBarrel_18 : decode cX10_requireBarrel 18 = .ok (.invokespecial 273, 3) := by decide +kernel
theorem dX10_requireBarrel_21 : decode cX10_requireBarrel 21 = .ok (.athrow, 1) := by decide +kernel
theorem dX10_requireBarrel_22 : decode cX10_requireBarrel 22 = .ok (.return_, 1) := by decide +kernel
theorem dX10_requireBuyer_0 : decode cX10_requireBuyer 0 = .ok (.aload_n 0, 1) := by decide +kernel
theorem dX10_requireBuyer_1 : decode cX10_requireBuyer 1 = .ok (.getfield 10, 3) := by decide +kernel
theorem dX10_requireBuyer_4 : decode cX10_requireBuyer 4 = .ok (.iload_n 1, 1) := by decide +kernel
theorem dX10_requireBuyer_5 : decode cX10_requireBuyer 5 = .ok (.invokevirtual 356, 3) := by decide +kernel
theorem dX10_requireBuyer_8 : decode cX10_requireBuyer 8 = .ok (.ifCond .ne 14, 3) := by decide +kernel
theorem dX10_requireBuyer_11 : decode cX10_requireBuyer 11 = .ok (.new 269, 3) := by decide +kernel
theorem dX10_requireBuyer_14 : decode cX10_requireBuyer 14 = .ok (.dup, 1) := by decide +kernel
theorem dX10_requireBuyer_15 : decode cX10_requireBuyer 15 = .ok (.ldc_w 359, 3) := by decide +kernel
theorem dX10_requireBuyer_18 : decode cX10_requireBuyer 18 = .ok (.invokespecial 273, 3) := by decide +kernel
theorem dX10_requireBuyer_21 : decode cX10_requireBuyer 21 = .ok (.athrow, 1) := by decide +kernel
theorem dX10_requireBuyer_22 : decode cX10_requireBuyer 22 = .ok (.return_, 1) := by decide +kernel
theorem dX10_requireRange_0 : decode cX10_requireRange 0 = .ok (.iload_n 0, 1) := by decide +kernel
theorem dX10_requireRange_1 : decode cX10_requireRange 1 = .ok (.iload_n 1, 1) := by decide +kernel
theorem dX10_requireRange_2 : decode cX10_requireRange 2 = .ok (.if_icmp .lt 8, 3) := by decide +kernel
theorem dX10_requireRange_5 : decode cX10_requireRange 5 = .ok (.iload_n 0, 1) := by decide +kernel
theorem dX10_requireRange_6 : decode cX10_requireRange 6 = .ok (.iload_n 2, 1) := by decide +kernel
theorem dX10_requireRange_7 : decode cX10_requireRange 7 = .ok (.if_icmp .le 14, 3) := by decide +kernel
theorem dX10_requireRange_10 : decode cX10_requireRange 10 = .ok (.new 92, 3) := by decide +kernel
theorem dX10_requireRange_13 : decode cX10_requireRange 13 = .ok (.dup, 1) := by decide +kernel
theorem dX10_requireRange_14 : decode cX10_requireRange 14 = .ok (.ldc_w 361, 3) := by decide +kernel
theorem dX10_requireRange_17 : decode cX10_requireRange 17 = .ok (.invokespecial 96, 3) := by decide +kernel
theorem dX10_requireRange_20 : decode cX10_requireRange 20 = .ok (.athrow, 1) := by decide +kernel
theorem dX10_requireRange_21 : decode cX10_requireRange 21 = .ok (.return_, 1) := by decide +kernel
theorem dX10_requireState_0 : decode cX10_requireState 0 = .ok (.iload_n 0, 1) := by decide +kernel
theorem dX10_requireState_1 : decode cX10_requireState 1 = .ok (.ifCond .ne 14, 3) := by decide +kernel
theorem dX10_requireState_4 : decode cX10_requireState 4 = .ok (.new 72, 3) := by decide +kernel
theorem dX10_requireState_7 : decode cX10_requireState 7 = .ok (.dup, 1) := by decide +kernel
theorem dX10_requireState_8 : decode cX10_requireState 8 = .ok (.ldc_w 363, 3) := by decide +kernel
theorem dX10_requireState_11 : decode cX10_requireState 11 = .ok (.invokespecial 76, 3) := by decide +kernel
theorem dX10_requireState_14 : decode cX10_requireState 14 = .ok (.athrow, 1) := by decide +kernel
theorem dX10_requireState_15 : decode cX10_requireState 15 = .ok (.return_, 1) := by decide +kernel
