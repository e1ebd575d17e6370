theorem dX11_failsAtMarket_94 : decode cX11_failsAtMarket 94 = .ok (.iaload, 1) := by decide +kernel
theorem dX11_failsAtMarket_95 : decode cX11_failsAtMarket 95 = .ok (.aload_n 0, 1) := by decide +kernel
theorem dX11_failsAtMarket_96 : decode cX11_failsAtMarket 96 = .ok (.getfield 25, 3) := by decide +kernel
theorem dX11_failsAtMarket_99 : decode cX11_failsAtMarket 99 = .ok (.iconst 3, 1) := by decide +kernel
theorem dX11_failsAtMarket_100 : decode cX11_failsAtMarket 100 = .ok (.iaload, 1) := by decide +kernel
theorem dX11_failsAtMarket_101 : decode cX11_failsAtMarket 101 = .ok (.aload_n 0, 1) := by decide +kernel
theorem dX11_failsAtMarket_102 : decode cX11_failsAtMarket 102 = .ok (.getfield 25, 3) := by decide +kernel
theorem dX11_failsAtMarket_105 : decode cX11_failsAtMarket 105 = .ok (.iconst 4, 1) := by decide +kernel
theorem dX11_failsAtMarket_106 : decode cX11_failsAtMarket 106 = .ok (.iaload, 1) := by decide +kernel
theorem dX11_failsAtMarket_107 : decode cX11_failsAtMarket 107 = .ok (.invokevirtual 38, 3) := by decide +kernel
theorem dX11_failsAtMarket_110 : decode cX11_failsAtMarket 110 = .ok (.aload_n 0, 1) := by decide +kernel
theorem dX11_failsAtMarket_111 : decode cX11_failsAtMarket 111 = .ok (.invokevirtual 229, 3) := by decide +kernel
theorem dX11_failsAtMarket_114 : decode cX11_failsAtMarket 114 = .ok (.ireturn, 1) := by decide +kernel
theorem dX11_failsAtBuyer_0 : decode cX11_failsAtBuyer 0 = .ok (.aload_n 0, 1) := by decide +kernel
theorem dX11_failsAtBuyer_1 : decode cX11_failsAtBuyer 1 = .ok (.invokevirtual 223, 3) := by decide +kernel
theorem dX11_failsAtBuyer_4 : decode cX11_failsAtBuyer 4 = .ok (.iconst 1, 1) := by decide +kernel
theorem dX11_failsAtBuyer_5 : decode cX11_failsAtBuyer 5 = .ok (.if_icmp .eq 9, 3) := by decide +kernel
theorem dX11_failsAtBuyer_8 : decode cX11_failsAtBuyer 8 = .ok (.aload_n 0, 1) := by decide +kernel
theorem dX11_failsAtBuyer_9 : decode cX11_failsAtBuyer 9 = .ok (.iconst 1, 1) := by decide +kernel
theorem dX11_failsAtBuyer_10 : decode cX11_failsAtBuyer 10 = .ok (.invokevirtual 214, 3) := by decide +kernel
theorem dX11_failsAtBuyer_13 : decode cX11_failsAtBuyer 13 = .ok (.ireturn, 1) := by decide +kernel
theorem dX11_failsAtBuyer_14 : decode cX11_failsAtBuyer 14 = .ok (.aload_n 0, 1) := by decide +kernel
theorem dX11_failsAtBuyer_15 : decode cX11_failsAtBuyer 15 = .ok (.getfield 7, 3) := by decide +kernel
theorem dX11_failsAtBuyer_18 : decode cX11_failsAtBuyer 18 = .ok (.bipush 6, 2) := by decide +kernel
theorem dX11_failsAtBuyer_20 : decode cX11_failsAtBuyer 20 = .ok (.iaload, 1) := by decide +kernel
theorem dX11_failsAtBuyer_21 : decode cX11_failsAtBuyer 21 = .ok (.bipush 6, 2) := by decide +kernel
theorem dX11_failsAtBuyer_23 : decode cX11_failsAtBuyer 23 = .ok (.if_icmp .ne 9, 3) := by decide +kernel
theorem dX11_failsAtBuyer_26 : decode cX11_failsAtBuyer 26 = .ok (.aload_n 0, 1) := by decide +kernel
theorem dX11_failsAtBuyer_27 : decode cX11_failsAtBuyer 27 = .ok (.iconst 3, 1) := by decide +kernel
theorem dX11_failsAtBuyer_28 : decode cX11_failsAtBuyer 28 = .ok (.invokevirtual 214, 3) := by decide +kernel
theorem dX11_failsAtBuyer_31 : decode cX11_failsAtBuyer 31 = .ok (.ireturn, 1) := by decide +kernel
theorem dX11_failsAtBuyer_32 : decode cX11_failsAtBuyer 32 = .ok (.aload_n 0, 1) := by decide +kernel
theorem dX11_failsAtBuyer_33 : decode cX11_failsAtBuyer 33 = .ok (.iconst 0, 1) := by decide +kernel
theorem dX11_failsAtBuyer_34 : decode cX11_failsAtBuyer 34 = .ok (.iconst 0, 1) := by decide +kernel
theorem dX11_failsAtBuyer_35 : decode cX11_failsAtBuyer 35 = .ok (.sipush 9999, 3) := by decide +kernel
theorem dX11_failsAtBuyer_38 : decode cX11_failsAtBuyer 38 = .ok (.invokevirtual 226, 3) := by decide +kernel
theorem dX11_failsAtBuyer_41 : decode cX11_failsAtBuyer 41 = .ok (.ifCond .ne 25, 3) := by decide +kernel
theorem dX11_failsAtBuyer_44 : decode cX11_failsAtBuyer 44 = .ok (.aload_n 0, 1) := by decide +kernel
theorem dX11_failsAtBuyer_45 : decode cX11_failsAtBuyer 45 = .ok (.iconst 1, 1) := by decide +kernel
theorem dX11_failsAtBuyer_46 : decode cX11_failsAtBuyer 46 = .ok (.iconst 0, 1) := by decide +kernel
theorem dX11_failsAtBuyer_47 : decode cX11_failsAtBuyer 47 = .ok (.iconst 4, 1) := by decide +kernel
theorem dX11_failsAtBuyer_48 : decode cX11_failsAtBuyer 48 = .ok (.invokevirtual 226, 3) := by decide +kernel
theorem dX11_failsAtBuyer_51 : decode cX11_failsAtBuyer 51 = .ok (.ifCond .ne 15, 3) := by decide +kernel
theorem dX11_failsAtBuyer_54 : decode cX11_failsAtBuyer 54 = .ok (.aload_n 0, 1) := by decide +kernel
theorem dX11_failsAtBuyer_55 : decode cX11_failsAtBuyer 55 = .ok (.iconst 2, 1) := by decide +kernel
theorem dX11_failsAtBuyer_56 : decode cX11_failsAtBuyer 56 = .ok (.iconst 1, 1) := by decide +kernel
theorem dX11_failsAtBuyer_57 : decode cX11_failsAtBuyer 57 = .ok (.sipush 999, 3) := by decide +kernel
theorem dX11_failsAtBuyer_60 : decode cX11_failsAtBuyer 60 = .ok (.invokevirtual 226, 3) := by decide +kernel
theorem dX11_failsAtBuyer_63 : decode cX11_failsAtBuyer 63 = .ok (.ifCond .eq 5, 3) := by decide +kernel
theorem dX11_failsAtBuyer_66 : decode cX11_failsAtBuyer 66 = .ok (.iconst 1, 1) := by decide +kernel
theorem dX11_failsAtBuyer_67 : decode cX11_failsAtBuyer 67 = .ok (.ireturn, 1) := by decide +kernel
theorem dX11_failsAtBuyer_68 : decode cX11_failsAtBuyer 68 = .ok (.aload_n 0, 1) := by decide +kernel
theorem dX11_failsAtBuyer_69 : decode cX11_failsAtBuyer 69 = .ok (.aload_n 0, 1) := by decide +kernel
theorem dX11_failsAtBuyer_70 : decode cX11_failsAtBuyer 70 = .ok (.getfield 25, 3) := by decide +kernel
theorem dX11_failsAtBuyer_73 : decode cX11_failsAtBuyer 73 = .ok (.iconst 0, 1) := by decide +kernel
theorem dX11_failsAtBuyer_74 : decode cX11_failsAtBuyer 74 = .ok (.iaload, 1) := by decide +kernel
theorem dX11_failsAtBuyer_75 : decode cX11_failsAtBuyer 75 = .ok (.aload_n 0, 1) := by decide +kernel
theorem dX11_failsAtBuyer_76 : decode cX11_failsAtBuyer 76 = .ok (.getfield 25, 3) := by decide +kernel
theorem dX11_failsAtBuyer_79 : decode cX11_failsAtBuyer 79 = .ok (.iconst 1, 1) := by decide +kernel
theorem dX11_failsAtBuyer_80 : decode cX11_failsAtBuyer 80 = .ok (.iaload, 1) := by decide +kernel
theorem dX11_failsAtBuyer_81 : decode cX11_failsAtBuyer 81 = .ok (.aload_n 0, 1) := by decide +kernel
theorem dX11_failsAtBuyer_82 : decode cX11_failsAtBuyer 82 = .ok (.getfield 25, 3) := by decide +kernel
theorem dX11_failsAtBuyer_85 : decode cX11_failsAtBuyer 85 = .ok (.iconst 2, 1) := by decide +kernel
theorem dX11_failsAtBuyer_86 : decode cX11_failsAtBuyer 86 = .ok (.iaload, 1) := by decide +kernel
theorem dX11_failsAtBuyer_87 : decode cX11_failsAtBuyer 87 = .ok (.invokevirtual 42, 3) := by decide +kernel
theorem dX11_failsAtBuyer_90 : decode cX11_failsAtBuyer 90 = .ok (.aload_n 0, 1) := by decide +kernel
theorem dX11_failsAtBuyer_91 : decode cX11_failsAtBuyer 91 = .ok (.invokevirtual 229, 3) := by decide +kernel
theorem dX11_failsAtBuyer_94 : decode cX11_failsAtBuyer 94 = .ok (.ireturn, 1) := by decide +kernel
theorem dX11_failsAtBarrel_0 : decode cX11_failsAtBarrel 0 = .ok (.aload_n 0, 1) := by decide +kernel
theorem dX11_failsAtBarrel_1 : decode cX11_failsAtBarrel 1 = .ok (.iconst 0, 1) := by decide +kernel
theorem dX11_failsAtBarrel_2 : decode cX11_failsAtBarrel 2 = .ok (.iconst 1, 1) := by decide +kernel
theorem dX11_failsAtBarrel_3 : decode cX11_failsAtBarrel 3 = .ok (.sipush 999, 3) := by decide +kernel
theorem dX11_failsAtBarrel_6 : decode cX11_failsAtBarrel 6 = .ok (.invokevirtual 226, 3) := by decide +kernel
theorem dX11_failsAtBarrel_9 : decode cX11_failsAtBarrel 9 = .ok (.ifCond .eq 5, 3) := by decide +kernel
theorem dX11_failsAtBarrel_12 : decode cX11_failsAtBarrel 12 = .ok (.iconst 1, 1) := by decide +kernel
theorem dX11_failsAtBarrel_13 : decode cX11_failsAtBarrel 13 = .ok (.ireturn, 1) := by decide +kernel
theorem dX11_failsAtBarrel_14 : decode cX11_failsAtBarrel 14 = .ok (.aload_n 0, 1) := by decide +kernel
theorem dX11_failsAtBarrel_15 : decode cX11_failsAtBarrel 15 = .ok (.iconst 1, 1) := by decide +kernel
theorem dX11_failsAtBarrel_16 : decode cX11_failsAtBarrel 16 = .ok (.putfield 232, 3) := by decide +kernel
theorem dX11_failsAtBarrel_19 : decode cX11_failsAtBarrel 19 = .ok (.aload_n 0, 1) := by decide +kernel
theorem dX11_failsAtBarrel_20 : decode cX11_failsAtBarrel 20 = .ok (.invokevirtual 211, 3) := by decide +kernel
theorem dX11_failsAtBarrel_23 : decode cX11_failsAtBarrel 23 = .ok (.aload_n 0, 1) := by decide +kernel
theorem dX11_failsAtBarrel_24 : decode cX11_failsAtBarrel 24 = .ok (.getfield 232, 3) := by decide +kernel
theorem dX11_failsAtBarrel_27 : decode cX11_failsAtBarrel 27 = .ok (.iconst 1, 1) := by decide +kernel
theorem dX11_failsAtBarrel_28 : decode cX11_failsAtBarrel 28 = .ok (.if_icmp .eq 11, 3) := by decide +kernel
theorem dX11_failsAtBarrel_31 : decode cX11_failsAtBarrel 31 = .ok (.aload_n 0, 1) := by decide +kernel
theorem dX11_failsAtBarrel_32 : decode cX11_failsAtBarrel 32 = .ok (.getfield 196, 3) := by decide +kernel
theorem dX11_failsAtBarrel_35 : decode cX11_failsAtBarrel 35 = .ok (.iconst 2, 1) := by decide +kernel
theorem dX11_failsAtBarrel_36 : decode cX11_failsAtBarrel 36 = .ok (.if_icmp .ne 53, 3) := by decide +kernel
theorem dX11_failsAtBarrel_39 : decode cX11_failsAtBarrel 39 = .ok (.aload_n 0, 1) := by decide +kernel
theorem dX11_failsAtBarrel_40 : decode cX11_failsAtBarrel 40 = .ok (.aload_n 0, 1) := by decide +kernel
theorem dX11_failsAtBarrel_41 : decode cX11_failsAtBarrel 41 = .ok (.getfield 232, 3) := by decide +kernel
theorem dX11_failsAtBarrel_44 : decode cX11_failsAtBarrel 44 = .ok (.bipush 10, 2) := by decide +kernel
theorem dX11_failsAtBarrel_46 : decode cX11_failsAtBarrel 46 = .ok (.sipush 150, 3) := by decide +kernel
theorem dX11_failsAtBarrel_49 : decode cX11_failsAtBarrel 49 = .ok (.invokevirtual 217, 3) := by decide +kernel
theorem dX11_failsAtBarrel_52 : decode cX11_failsAtBarrel 52 = .ok (.ifCond .eq 5, 3) := by decide +kernel
theorem dX11_failsAtBarrel_55 : decode cX11_failsAtBarrel 55 = .ok (.iconst 1, 1) := by decide +kernel
theorem dX11_failsAtBarrel_56 : decode cX11_failsAtBarrel 56 = .ok (.ireturn, 1) := by decide +kernel
theorem dX11_failsAtBarrel_57 : decode cX11_failsAtBarrel 57 = .ok (.aload_n 0, 1) := by decide +kernel
theorem dX11_failsAtBarrel_58 : decode cX11_failsAtBarrel 58 = .ok (.getfield 232, 3) := by decide +kernel
theorem dX11_failsAtBarrel_61 : decode cX11_failsAtBarrel 61 = .ok (.bipush 9, 2) := by decide +kernel
theorem dX11_failsAtBarrel_63 : decode cX11_failsAtBarrel 63 = .ok (.if_icmp .le 9, 3) := by decide +kernel
theorem dX11_failsAtBarrel_66 : decode cX11_failsAtBarrel 66 = .ok (.aload_n 0, 1) := by decide +kernel
theorem dX11_failsAtBarrel_67 : decode cX11_failsAtBarrel 67 = .ok (.iconst 3, 1) := by decide +kernel
theorem dX11_failsAtBarrel_68 : decode cX11_failsAtBarrel 68 = .ok (.invokevirtual 214, 3) := by decide +kernel
theorem dX11_failsAtBarrel_71 : decode cX11_failsAtBarrel 71 = .ok (.ireturn, 1) := by decide +kernel
theorem dX11_failsAtBarrel_72 : decode cX11_failsAtBarrel 72 = .ok (.aload_n 0, 1) := by decide +kernel
theorem dX11_failsAtBarrel_73 : decode cX11_failsAtBarrel 73 = .ok (.dup, 1) := by decide +kernel
theorem dX11_failsAtBarrel_74 : decode cX11_failsAtBarrel 74 = .ok (.getfield 232, 3) := by decide +kernel
theorem dX11_failsAtBarrel_77 : decode cX11_failsAtBarrel 77 = .ok (.iconst 1, 1) := by decide +kernel
theorem dX11_failsAtBarrel_78 : decode cX11_failsAtBarrel 78 = .ok (.iadd, 1) := by decide +kernel
theorem dX11_failsAtBarrel_79 : decode cX11_failsAtBarrel 79 = .ok (.putfield 232, 3) := by decide +kernel
theorem dX11_failsAtBarrel_82 : decode cX11_failsAtBarrel 82 = .ok (.aload_n 0, 1) := by decide +kernel
theorem dX11_failsAtBarrel_83 : decode cX11_failsAtBarrel 83 = .ok (.invokevirtual 211, 3) := by decide +kernel
theorem dX11_failsAtBarrel_86 : decode cX11_failsAtBarrel 86 = .ok (.goto (-63), 3) := by decide +kernel
theorem dX11_failsAtBarrel_89 : decode cX11_failsAtBarrel 89 = .ok (.iconst 0, 1) := by decide +kernel
theorem dX11_failsAtBarrel_90 : decode cX11_failsAtBarrel 90 = .ok (.ireturn, 1) := by decide +kernel
theorem dX11_failsAtFirstBarrel_0 : decode cX11_failsAtFirstBarrel 0 = .ok (.aload_n 0, 1) := by decide +kernel
theorem dX11_failsAtFirstBarrel_1 : decode cX11_failsAtFirstBarrel 1 = .ok (.getfield 7, 3) := by decide +kernel
theorem dX11_failsAtFirstBarrel_4 : decode cX11_failsAtFirstBarrel 4 = .ok (.bipush 7, 2) := by decide +kernel
theorem dX11_failsAtFirstBarrel_6 : decode cX11_failsAtFirstBarrel 6 = .ok (.iaload, 1) := by decide +kernel
theorem dX11_failsAtFirstBarrel_7 : decode cX11_failsAtFirstBarrel 7 = .ok (.bipush 20, 2) := by decide +kernel
theorem dX11_failsAtFirstBarrel_9 : decode cX11_failsAtFirstBarrel 9 = .ok (.if_icmp .ne 9, 3) := by decide +kernel
theorem dX11_failsAtFirstBarrel_12 : decode cX11_failsAtFirstBarrel 12 = .ok (.aload_n 0, 1) := by decide +kernel
theorem dX11_failsAtFirstBarrel_13 : decode cX11_failsAtFirstBarrel 13 = .ok (.iconst 3, 1) := by decide +kernel
theorem dX11_failsAtFirstBarrel_14 : decode cX11_failsAtFirstBarrel 14 = .ok (.invokevirtual 214, 3) := by decide +kernel
theorem dX11_failsAtFirstBarrel_17 : decode cX11_failsAtFirstBarrel 17 = .ok (.ireturn, 1) := by decide +kernel
theorem dX11_failsAtFirstBarrel_18 : decode cX11_failsAtFirstBarrel 18 = .ok (.aload_n 0, 1) := by decide +kernel
theorem dX11_failsAtFirstBarrel_19 : decode cX11_failsAtFirstBarrel 19 = .ok (.invokevirtual 235, 3) := by decide +kernel
theorem dX11_failsAtFirstBarrel_22 : decode cX11_failsAtFirstBarrel 22 = .ok (.ifCond .eq 5, 3) := by decide +kernel
theorem dX11_failsAtFirstBarrel_25 : decode cX11_failsAtFirstBarrel 25 = .ok (.iconst 1, 1) := by decide +kernel
theorem dX11_failsAtFirstBarrel_26 : decode cX11_failsAtFirstBarrel 26 = .ok (.ireturn, 1) := by decide +kernel
theorem dX11_failsAtFirstBarrel_27 : decode cX11_failsAtFirstBarrel 27 = .ok (.aload_n 0, 1) := by decide +kernel
theorem dX11_failsAtFirstBarrel_28 : decode cX11_failsAtFirstBarrel 28 = .ok (.aload_n 0, 1) := by decide +kernel
theorem dX11_failsAtFirstBarrel_29 : decode cX11_failsAtFirstBarrel 29 = .ok (.getfield 25, 3) := by decide +kernel
theorem dX11_failsAtFirstBarrel_32 : decode cX11_failsAtFirstBarrel 32 = .ok (.iconst 0, 1) := by decide +kernel
theorem dX11_failsAtFirstBarrel_33 : decode cX11_failsAtFirstBarrel 33 = .ok (.iaload, 1) := by decide +kernel
theorem dX11_failsAtFirstBarrel_34 : decode cX11_failsAtFirstBarrel 34 = .ok (.invokevirtual 46, 3) := by decide +kernel
theorem dX11_failsAtFirstBarrel_37 : decode cX11_failsAtFirstBarrel 37 = .ok (.istore_n 1, 1) := by decide +kernel
theorem dX11_failsAtFirstBarrel_38 : decode cX11_failsAtFirstBarrel 38 = .ok (.iconst 1, 1) := by decide +kernel
theorem dX11_failsAtFirstBarrel_39 : decode cX11_failsAtFirstBarrel 39 = .ok (.istore_n 2, 1) := by decide +kernel
theorem dX11_failsAtFirstBarrel_40 : decode cX11_failsAtFirstBarrel 40 = .ok (.iload_n 2, 1) := by decide +kernel
theorem dX11_failsAtFirstBarrel_41 : decode cX11_failsAtFirstBarrel 41 = .ok (.aload_n 0, 1) := by decide +kernel
theorem dX11_failsAtFirstBarrel_42 : decode cX11_failsAtFirstBarrel 42 = .ok (.getfield 232, 3) := by decide +kernel
theorem dX11_failsAtFirstBarrel_45 : decode cX11_failsAtFirstBarrel 45 = .ok (.if_icmp .ge 20, 3) := by decide +kernel
theorem dX11_failsAtFirstBarrel_48 : decode cX11_failsAtFirstBarrel 48 = .ok (.aload_n 0, 1) := by decide +kernel
theorem dX11_failsAtFirstBarrel_49 : decode cX11_failsAtFirstBarrel 49 = .ok (.iload_n 1, 1) := by decide +kernel
theorem dX11_failsAtFirstBarrel_50 : decode cX11_failsAtFirstBarrel 50 = .ok (.aload_n 0, 1) := by decide +kernel
theorem dX11_failsAtFirstBarrel_51 : decode cX11_failsAtFirstBarrel 51 = .ok (.getfield 25, 3) := by decide +kernel
theorem dX11_failsAtFirstBarrel_54 : decode cX11_failsAtFirstBarrel 54 = .ok (.iload_n 2, 1) := by decide +kernel
theorem dX11_failsAtFirstBarrel_55 : decode cX11_failsAtFirstBarrel 55 = .ok (.iaload, 1) := by decide +kernel
theorem dX11_failsAtFirstBarrel_56 : decode cX11_failsAtFirstBarrel 56 = .ok (.invokevirtual 50, 3) := by decide +kernel
theorem dX11_failsAtFirstBarrel_59 : decode cX11_failsAtFirstBarrel 59 = .ok (.iinc 2 1, 3) := by decide +kernel
theorem dX11_failsAtFirstBarrel_62 : decode cX11_failsAtFirstBarrel 62 = .ok (.goto (-22), 3) := by decide +kernel
theorem dX11_failsAtFirstBarrel_65 : decode cX11_failsAtFirstBarrel 65 = .ok (.aload_n 0, 1) := by decide +kernel
theorem dX11_failsAtFirstBarrel_66 : decode cX11_failsAtFirstBarrel 66 = .ok (.invokevirtual 220, 3) := by decide +kernel
theorem dX11_failsAtFirstBarrel_69 : decode cX11_failsAtFirstBarrel 69 = .ok (.ireturn, 1) := by decide +kernel
theorem dX11_failsAtSetup_0 : decode cX11_failsAtSetup 0 = .ok (.aload_n 0, 1) := by decide +kernel
theorem dX11_failsAtSetup_1 : decode cX11_failsAtSetup 1 = .ok (.invokevirtual 238, 3) := by decide +kernel
theorem dX11_failsAtSetup_4 : decode cX11_failsAtSetup 4 = .ok (.aload_n 0, 1) := by decide +kernel
theorem dX11_failsAtSetup_5 : decode cX11_failsAtSetup 5 = .ok (.invokevirtual 241, 3) := by decide +kernel
theorem dX11_failsAtSetup_8 : decode cX11_failsAtSetup 8 = .ok (.ifCond .ne 10, 3) := by decide +kernel
theorem dX11_failsAtSetup_11 : decode cX11_failsAtSetup 11 = .ok (.aload_n 0, 1) := by decide +kernel
theorem dX11_failsAtSetup_12 : decode cX11_failsAtSetup 12 = .ok (.invokevirtual 244, 3) := by decide +kernel
theorem dX11_failsAtSetup_15 : decode cX11_failsAtSetup 15 = .ok (.ifCond .eq 5, 3) := by decide +kernel
theorem dX11_failsAtSetup_18 : decode cX11_failsAtSetup 18 = .ok (.iconst 1, 1) := by decide +kernel
theorem dX11_failsAtSetup_19 : decode cX11_failsAtSetup 19 = .ok (.ireturn, 1) := by decide +kernel
theorem dX11_failsAtSetup_20 : decode cX11_failsAtSetup 20 = .ok (.aload_n 0, 1) := by decide +kernel
theorem dX11_failsAtSetup_21 : decode cX11_failsAtSetup 21 = .ok (.invokevirtual 223, 3) := by decide +kernel
theorem dX11_failsAtSetup_24 : decode cX11_failsAtSetup 24 = .ok (.iconst 1, 1) := by decide +kernel
theorem dX11_failsAtSetup_25 : decode cX11_failsAtSetup 25 = .ok (.if_icmp .ne 12, 3) := by decide +kernel
theorem dX11_failsAtSetup_28 : decode cX11_failsAtSetup 28 = .ok (.aload_n 0, 1) := by decide +kernel
theorem dX11_failsAtSetup_29 : decode cX11_failsAtSetup 29 = .ok (.invokevirtual 244, 3) := by decide +kernel
theorem dX11_failsAtSetup_32 : decode cX11_failsAtSetup 32 = .ok (.ifCond .eq (-12), 3) := by decide +kernel
theorem dX11_failsAtSetup_35 : decode cX11_failsAtSetup 35 = .ok (.iconst 1, 1) := by decide +kernel
theorem dX11_failsAtSetup_36 : decode cX11_failsAtSetup 36 = .ok (.ireturn, 1) := by decide +kernel
theorem dX11_failsAtSetup_37 : decode cX11_failsAtSetup 37 = .ok (.aload_n 0, 1) := by decide +kernel
theorem dX11_failsAtSetup_38 : decode cX11_failsAtSetup 38 = .ok (.invokevirtual 223, 3) := by decide +kernel
theorem dX11_failsAtSetup_41 : decode cX11_failsAtSetup 41 = .ok (.iconst 2, 1) := by decide +kernel
theorem dX11_failsAtSetup_42 : decode cX11_failsAtSetup 42 = .ok (.if_icmp .ne 12, 3) := by decide +kernel
theorem dX11_failsAtSetup_45 : decode cX11_failsAtSetup 45 = .ok (.aload_n 0, 1) := by decide +kernel
theorem dX11_failsAtSetup_46 : decode cX11_failsAtSetup 46 = .ok (.invokevirtual 247, 3) := by decide +kernel
theorem dX11_failsAtSetup_49 : decode cX11_failsAtSetup 49 = .ok (.ifCond .eq (-12), 3) := by decide +kernel
theorem dX11_failsAtSetup_52 : decode cX11_failsAtSetup 52 = .ok (.iconst 1, 1) := by decide +kernel
theorem dX11_failsAtSetup_53 : decode cX11_failsAtSetup 53 = .ok (.ireturn, 1) := by decide +kernel
theorem dX11_failsAtSetup_54 : decode cX11_failsAtSetup 54 = .ok (.aload_n 0, 1) := by decide +kernel
theorem dX11_failsAtSetup_55 : decode cX11_failsAtSetup 55 = .ok (.getfield 196, 3) := by decide +kernel
theorem dX11_failsAtSetup_58 : decode cX11_failsAtSetup 58 = .ok (.ifCond .eq 15, 3) := by decide +kernel
theorem dX11_failsAtSetup_61 : decode cX11_failsAtSetup 61 = .ok (.aload_n 0, 1) := by decide +kernel
theorem dX11_failsAtSetup_62 : decode cX11_failsAtSetup 62 = .ok (.iconst 1, 1) := by decide +kernel
theorem dX11_failsAtSetup_63 : decode cX11_failsAtSetup 63 = .ok (.invokevirtual 214, 3) := by decide +kernel
theorem dX11_failsAtSetup_66 : decode cX11_failsAtSetup 66 = .ok (.ifCond .eq 7, 3) := by decide +kernel
theorem dX11_failsAtSetup_69 : decode cX11_failsAtSetup 69 = .ok (.iconst 1, 1) := by decide +kernel
theorem dX11_failsAtSetup_70 : decode cX11_failsAtSetup 70 = .ok (.goto 4, 3) := by decide +kernel
theorem dX11_failsAtSetup_73 : decode cX11_failsAtSetup 73 = .ok (.iconst 0, 1) := by decide +kernel
theorem dX11_failsAtSetup_74 : decode cX11_failsAtSetup 74 = .ok (.ireturn, 1) := by decide +kernel
theorem dX11_loadSetup_0 : decode cX11_loadSetup 0 = .ok (.aload_n 0, 1) := by decide +kernel
theorem dX11_loadSetup_1 : decode cX11_loadSetup 1 = .ok (.iconst 0, 1) := by decide +kernel
theorem dX11_loadSetup_2 : decode cX11_loadSetup 2 = .ok (.putfield 54, 3) := by decide +kernel
theorem dX11_loadSetup_5 : decode cX11_loadSetup 5 = .ok (.aload_n 0, 1) := by decide +kernel
theorem dX11_loadSetup_6 : decode cX11_loadSetup 6 = .ok (.iconst 0, 1) := by decide +kernel
theorem dX11_loadSetup_7 : decode cX11_loadSetup 7 = .ok (.bipush 11, 2) := by decide +kernel
theorem dX11_loadSetup_9 : decode cX11_loadSetup 9 = .ok (.invokevirtual 63, 3) := by decide +kernel
theorem dX11_loadSetup_12 : decode cX11_loadSetup 12 = .ok (.aload_n 0, 1) := by decide +kernel
theorem dX11_loadSetup_13 : decode cX11_loadSetup 13 = .ok (.invokevirtual 250, 3) := by decide +kernel
theorem dX11_loadSetup_16 : decode cX11_loadSetup 16 = .ok (.istore_n 1, 1) := by decide +kernel
theorem dX11_loadSetup_17 : decode cX11_loadSetup 17 = .ok (.aload_n 0, 1) := by decide +kernel
theorem dX11_loadSetup_18 : decode cX11_loadSetup 18 = .ok (.iconst 0, 1) := by decide +kernel
theorem dX11_loadSetup_19 : decode cX11_loadSetup 19 = .ok (.putfield 163, 3) := by decide +kernel
theorem dX11_loadSetup_22 : decode cX11_loadSetup 22 = .ok (.iload_n 1, 1) := by decide +kernel
theorem dX11_loadSetup_23 : decode cX11_loadSetup 23 = .ok (.ifCond .eq 10, 3) := by decide +kernel
theorem dX11_loadSetup_26 : decode cX11_loadSetup 26 = .ok (.aload_n 0, 1) := by decide +kernel
theorem dX11_loadSetup_27 : decode cX11_loadSetup 27 = .ok (.bipush 11, 2) := by decide +kernel
theorem dX11_loadSetup_29 : decode cX11_loadSetup 29 = .ok (.iconst 0, 1) := by decide +kernel
theorem dX11_loadSetup_30 : decode cX11_loadSetup 30 = .ok (.invokevirtual 63, 3) := by decide +kernel
theorem dX11_loadSetup_33 : decode cX11_loadSetup 33 = .ok (.aload_n 0, 1) := by decide +kernel
theorem dX11_loadSetup_34 : decode cX11_loadSetup 34 = .ok (.iload_n 1, 1) := by decide +kernel
theorem dX11_loadSetup_35 : decode cX11_loadSetup 35 = .ok (.iconst 1, 1) := by decide +kernel
theorem dX11_loadSetup_36 : decode cX11_loadSetup 36 = .ok (.invokevirtual 166, 3) := by decide +kernel
theorem dX11_loadSetup_39 : decode cX11_loadSetup 39 = .ok (.ifCond .eq 5, 3) := by decide +kernel
theorem dX11_loadSetup_42 : decode cX11_loadSetup 42 = .ok (.iconst 0, 1) := by decide +kernel
theorem dX11_loadSetup_43 : decode cX11_loadSetup 43 = .ok (.ireturn, 1) := by decide +kernel
theorem dX11_loadSetup_44 : decode cX11_loadSetup 44 = .ok (.aload_n 0, 1) := by decide +kernel
theorem dX11_loadSetup_45 : decode cX11_loadSetup 45 = .ok (.bipush 11, 2) := by decide +kernel
theorem dX11_loadSetup_47 : decode cX11_loadSetup 47 = .ok (.invokevirtual 253, 3) := by decide +kernel
theorem dX11_loadSetup_50 : decode cX11_loadSetup 50 = .ok (.aload_n 0, 1) := by decide +kernel
theorem dX11_loadSetup_51 : decode cX11_loadSetup 51 = .ok (.getfield 7, 3) := by decide +kernel
theorem dX11_loadSetup_54 : decode cX11_loadSetup 54 = .ok (.bipush 7, 2) := by decide +kernel
theorem dX11_loadSetup_56 : decode cX11_loadSetup 56 = .ok (.iaload, 1) := by decide +kernel
theorem dX11_loadSetup_57 : decode cX11_loadSetup 57 = .ok (.ireturn, 1) := by decide +kernel
theorem dX11_failsAtBuyerNumber_0 : decode cX11_failsAtBuyerNumber 0 = .ok (.aload_n 0, 1) := by decide +kernel
theorem dX11_failsAtBuyerNumber_1 : decode cX11_failsAtBuyerNumber 1 = .ok (.iconst 0, 1) := by decide +kernel
theorem dX11_failsAtBuyerNumber_2 : decode cX11_failsAtBuyerNumber 2 = .ok (.iconst 0, 1) := by decide +kernel
theorem dX11_failsAtBuyerNumber_3 : decode cX11_failsAtBuyerNumber 3 = .ok (.aload_n 0, 1) := by decide +kernel
theorem dX11_failsAtBuyerNumber_4 : decode cX11_failsAtBuyerNumber 4 = .ok (.getfield 7, 3) := by decide +kernel
theorem dX11_failsAtBuyerNumber_7 : decode cX11_failsAtBuyerNumber 7 = .ok (.bipush 6, 2) := by decide +kernel
theorem dX11_failsAtBuyerNumber_9 : decode cX11_failsAtBuyerNumber 9 = .ok (.iaload, 1) := by decide +kernel
theorem dX11_failsAtBuyerNumber_10 : decode cX11_failsAtBuyerNumber 10 = .ok (.iconst 1, 1) := by decide +kernel
theorem dX11_failsAtBuyerNumber_11 : decode cX11_failsAtBuyerNumber 11 = .ok (.isub, 1) := by decide +kernel
theorem dX11_failsAtBuyerNumber_12 : decode cX11_failsAtBuyerNumber 12 = .ok (.invokevirtual 226, 3) := by decide +kernel
theorem dX11_failsAtBuyerNumber_15 : decode cX11_failsAtBuyerNumber 15 = .ok (.ireturn, 1) := by decide +kernel
theorem dX11_failsAtBarrelNumber_0 : decode cX11_failsAtBarrelNumber 0 = .ok (.aload_n 0, 1) := by decide +kernel
theorem dX11_failsAtBarrelNumber_1 : decode cX11_failsAtBarrelNumber 1 = .ok (.iconst 0, 1) := by decide +kernel
theorem dX11_failsAtBarrelNumber_2 : decode cX11_failsAtBarrelNumber 2 = .ok (.iconst 0, 1) := by decide +kernel
theorem dX11_failsAtBarrelNumber_3 : decode cX11_failsAtBarrelNumber 3 = .ok (.bipush 19, 2) := by decide +kernel
theorem dX11_failsAtBarrelNumber_5 : decode cX11_failsAtBarrelNumber 5 = .ok (.invokevirtual 226, 3) := by decide +kernel
theorem dX11_failsAtBarrelNumber_8 : decode cX11_failsAtBarrelNumber 8 = .ok (.ireturn, 1) := by decide +kernel
theorem dX11_failsAtRest_0 : decode cX11_failsAtRest 0 = .ok (.iload_n 1, 1) := by decide +kernel
theorem dX11_failsAtRest_1 : decode cX11_failsAtRest 1 = .ok (.tableswitch 95 3 6 #[31, 36, 46, 70], 31) := by decide +kernel
theorem dX11_failsAtRest_32 : decode cX11_failsAtRest 32 = .ok (.aload_n 0, 1) := by decide +kernel
theorem dX11_failsAtRest_33 : decode cX11_failsAtRest 33 = .ok (.invokevirtual 256, 3) := by decide +kernel
theorem dX11_failsAtRest_36 : decode cX11_failsAtRest 36 = .ok (.ireturn, 1) := by decide +kernel
theorem dX11_failsAtRest_37 : decode cX11_failsAtRest 37 = .ok (.aload_n 0, 1) := by decide +kernel
theorem dX11_failsAtRest_38 : decode cX11_failsAtRest 38 = .ok (.iconst 0, 1) := by decide +kernel
theorem dX11_failsAtRest_39 : decode cX11_failsAtRest 39 = .ok (.iconst 1, 1) := by decide +kernel
theorem dX11_failsAtRest_40 : decode cX11_failsAtRest 40 = .ok (.sipush 200, 3) := by decide +kernel
theorem dX11_failsAtRest_43 : decode cX11_failsAtRest 43 = .ok (.invokevirtual 226, 3) := by decide +kernel
theorem dX11_failsAtRest_46 : decode cX11_failsAtRest 46 = .ok (.ireturn, 1) := by decide +kernel
theorem dX11_failsAtRest_47 : decode cX11_failsAtRest 47 = .ok (.aload_n 0, 1) := by decide +kernel
theorem dX11_failsAtRest_48 : decode cX11_failsAtRest 48 = .ok (.invokevirtual 259, 3) := by decide +kernel
theorem dX11_failsAtRest_51 : decode cX11_failsAtRest 51 = .ok (.ifCond .ne 14, 3) := by decide +kernel
theorem dX11_failsAtRest_54 : decode cX11_failsAtRest 54 = .ok (.aload_n 0, 1) := by decide +kernel
theorem dX11_failsAtRest_55 : decode cX11_failsAtRest 55 = .ok (.iconst 1, 1) := by decide +kernel
theorem dX11_failsAtRest_56 : decode cX11_failsAtRest 56 = .ok (.iconst 1, 1) := by decide +kernel
theorem dX11_failsAtRest_57 : decode cX11_failsAtRest 57 = .ok (.bipush 8, 2) := by decide +kernel
theorem dX11_failsAtRest_59 : decode cX11_failsAtRest 59 = .ok (.invokevirtual 226, 3) := by decide +kernel
theorem dX11_failsAtRest_62 : decode cX11_failsAtRest 62 = .ok (.ifCond .eq 7, 3) := by decide +kernel
theorem dX11_failsAtRest_65 : decode cX11_failsAtRest 65 = .ok (.iconst 1, 1) := by decide +kernel
theorem dX11_failsAtRest_66 : decode cX11_failsAtRest 66 = .ok (.goto 4, 3) := by decide +kernel
theorem dX11_failsAtRest_69 : decode cX11_failsAtRest 69 = .ok (.iconst 0, 1) := by decide +kernel
theorem dX11_failsAtRest_70 : decode cX11_failsAtRest 70 = .ok (.ireturn, 1) := by decide +kernel
theorem dX11_failsAtRest_71 : decode cX11_failsAtRest 71 = .ok (.aload_n 0, 1) := by decide +kernel
theorem dX11_failsAtRest_72 : decode cX11_failsAtRest 72 = .ok (.invokevirtual 256, 3) := by decide +kernel
theorem dX11_failsAtRest_75 : decode cX11_failsAtRest 75 = .ok (.ifCond .ne 15, 3) := by decide +kernel
theorem dX11_failsAtRest_78 : decode cX11_failsAtRest 78 = .ok (.aload_n 0, 1) := by decide +kernel
theorem dX11_failsAtRest_79 : decode cX11_failsAtRest 79 = .ok (.iconst 1, 1) := by decide +kernel
theorem dX11_failsAtRest_80 : decode cX11_failsAtRest 80 = .ok (.iconst 1, 1) := by decide +kernel
theorem dX11_failsAtRest_81 : decode cX11_failsAtRest 81 = .ok (.sipush 9999, 3) := by decide +kernel
theorem dX11_failsAtRest_84 : decode cX11_failsAtRest 84 = .ok (.invokevirtual 226, 3) := by decide +kernel
theorem dX11_failsAtRest_87 : decode cX11_failsAtRest 87 = .ok (.ifCond .eq 7, 3) := by decide +kernel
theorem dX11_failsAtRest_90 : decode cX11_failsAtRest 90 = .ok (.iconst 1, 1) := by decide +kernel
theorem dX11_failsAtRest_91 : decode cX11_failsAtRest 91 = .ok (.goto 4, 3) := by decide +kernel
theorem dX11_failsAtRest_94 : decode cX11_failsAtRest 94 = .ok (.iconst 0, 1) := by decide +kernel
theorem dX11_failsAtRest_95 : decode cX11_failsAtRest 95 = .ok (.ireturn, 1) := by decide +kernel
theorem dX11_failsAtRest_96 : decode cX11_failsAtRest 96 = .ok (.aload_n 0, 1) := by decide +kernel
theorem dX11_failsAtRest_97 : decode cX11_failsAtRest 97 = .ok (.invokevirtual 259, 3) := by decide +kernel
theorem dX11_failsAtRest_100 : decode cX11_failsAtRest 100 = .ok (.ireturn, 1) := by decide +kernel
theorem dX11_failsAtCommand_0 : decode cX11_failsAtCommand 0 = .ok (.aload_n 0, 1) := by decide +kernel
theorem dX11_failsAtCommand_1 : decode cX11_failsAtCommand 1 = .ok (.invokevirtual 223, 3) := by decide +kernel
theorem dX11_failsAtCommand_4 : decode cX11_failsAtCommand 4 = .ok (.istore_n 1, 1) := by decide +kernel
theorem dX11_failsAtCommand_5 : decode cX11_failsAtCommand 5 = .ok (.iload_n 1, 1) := by decide +kernel
theorem dX11_failsAtCommand_6 : decode cX11_failsAtCommand 6 = .ok (.iconst 2, 1) := by decide +kernel
theorem dX11_failsAtCommand_7 : decode cX11_failsAtCommand 7 = .ok (.bipush 7, 2) := by decide +kernel
theorem dX11_failsAtCommand_9 : decode cX11_failsAtCommand 9 = .ok (.invokestatic 173, 3) := by decide +kernel
theorem dX11_failsAtCommand_12 : decode cX11_failsAtCommand 12 = .ok (.ifCond .ne 9, 3) := by decide +kernel
theorem dX11_failsAtCommand_15 : decode cX11_failsAtCommand 15 = .ok (.aload_n 0, 1) := by decide +kernel
theorem dX11_failsAtCommand_16 : decode cX11_failsAtCommand 16 = .ok (.iconst 1, 1) := by decide +kernel
theorem dX11_failsAtCommand_17 : decode cX11_failsAtCommand 17 = .ok (.invokevirtual 214, 3) := by decide +kernel
theorem dX11_failsAtCommand_20 : decode cX11_failsAtCommand 20 = .ok (.ireturn, 1) := by decide +kernel
theorem dX11_failsAtCommand_21 : decode cX11_failsAtCommand 21 = .ok (.aload_n 0, 1) := by decide +kernel
theorem dX11_failsAtCommand_22 : decode cX11_failsAtCommand 22 = .ok (.getfield 208, 3) := by decide +kernel
theorem dX11_failsAtCommand_25 : decode cX11_failsAtCommand 25 = .ok (.bipush 20, 2) := by decide +kernel
theorem dX11_failsAtCommand_27 : decode cX11_failsAtCommand 27 = .ok (.if_icmp .ne 9, 3) := by decide +kernel
theorem dX11_failsAtCommand_30 : decode cX11_failsAtCommand 30 = .ok (.aload_n 0, 1) := by decide +kernel
theorem dX11_failsAtCommand_31 : decode cX11_failsAtCommand 31 = .ok (.iconst 3, 1) := by decide +kernel
theorem dX11_failsAtCommand_32 : decode cX11_failsAtCommand 32 = .ok (.invokevirtual 214, 3) := by decide +kernel
theorem dX11_failsAtCommand_35 : decode cX11_failsAtCommand 35 = .ok (.ireturn, 1) := by decide +kernel
theorem dX11_failsAtCommand_36 : decode cX11_failsAtCommand 36 = .ok (.aload_n 0, 1) := by decide +kernel
theorem dX11_failsAtCommand_37 : decode cX11_failsAtCommand 37 = .ok (.iconst 2, 1) := by decide +kernel
theorem dX11_failsAtCommand_38 : decode cX11_failsAtCommand 38 = .ok (.putfield 232, 3) := by decide +kernel
theorem dX11_failsAtCommand_41 : decode cX11_failsAtCommand 41 = .ok (.iload_n 1, 1) := by decide +kernel
theorem dX11_failsAtCommand_42 : decode cX11_failsAtCommand 42 = .ok (.iconst 2, 1) := by decide +kernel
theorem dX11_failsAtCommand_43 : decode cX11_failsAtCommand 43 = .ok (.if_icmp .ne 13, 3) := by decide +kernel
theorem dX11_failsAtCommand_46 : decode cX11_failsAtCommand 46 = .ok (.aload_n 0, 1) := by decide +kernel
theorem dX11_failsAtCommand_47 : decode cX11_failsAtCommand 47 = .ok (.invokevirtual 235, 3) := by decide +kernel
theorem dX11_failsAtCommand_50 : decode cX11_failsAtCommand 50 = .ok (.ifCond .eq 16, 3) := by decide +kernel
theorem dX11_failsAtCommand_53 : decode cX11_failsAtCommand 53 = .ok (.goto 11, 3) := by decide +kernel
theorem dX11_failsAtCommand_56 : decode cX11_failsAtCommand 56 = .ok (.aload_n 0, 1) := by decide +kernel
theorem dX11_failsAtCommand_57 : decode cX11_failsAtCommand 57 = .ok (.iload_n 1, 1) := by decide +kernel
theorem dX11_failsAtCommand_58 : decode cX11_failsAtCommand 58 = .ok (.invokevirtual 262, 3) := by decide +kernel
theorem dX11_failsAtCommand_61 : decode cX11_failsAtCommand 61 = .ok (.ifCond .eq 5, 3) := by decide +kernel
theorem dX11_failsAtCommand_64 : decode cX11_failsAtCommand 64 = .ok (.iconst 1, 1) := by decide +kernel
theorem dX11_failsAtCommand_65 : decode cX11_failsAtCommand 65 = .ok (.ireturn, 1) := by decide +kernel
theorem dX11_failsAtCommand_66 : decode cX11_failsAtCommand 66 = .ok (.iload_n 1, 1) := by decide +kernel
theorem dX11_failsAtCommand_67 : decode cX11_failsAtCommand 67 = .ok (.iconst 2, 1) := by decide +kernel
theorem dX11_failsAtCommand_68 : decode cX11_failsAtCommand 68 = .ok (.if_icmp .eq 7, 3) := by decide +kernel
theorem dX11_failsAtCommand_71 : decode cX11_failsAtCommand 71 = .ok (.aload_n 0, 1) := by decide +kernel
theorem dX11_failsAtCommand_72 : decode cX11_failsAtCommand 72 = .ok (.invokevirtual 211, 3) := by decide +kernel
theorem dX11_failsAtCommand_75 : decode cX11_failsAtCommand 75 = .ok (.bipush 13, 2) := by decide +kernel
theorem dX11_failsAtCommand_77 : decode cX11_failsAtCommand 77 = .ok (.aload_n 0, 1) := by decide +kernel
theorem dX11_failsAtCommand_78 : decode cX11_failsAtCommand 78 = .ok (.getfield 208, 3) := by decide +kernel
theorem dX11_failsAtCommand_81 : decode cX11_failsAtCommand 81 = .ok (.imul, 1) := by decide +kernel
theorem dX11_failsAtCommand_82 : decode cX11_failsAtCommand 82 = .ok (.istore_n 2, 1) := by decide +kernel
theorem dX11_failsAtCommand_83 : decode cX11_failsAtCommand 83 = .ok (.aload_n 0, 1) := by decide +kernel
theorem dX11_failsAtCommand_84 : decode cX11_failsAtCommand 84 = .ok (.getfield 28, 3) := by decide +kernel
theorem dX11_failsAtCommand_87 : decode cX11_failsAtCommand 87 = .ok (.iload_n 2, 1) := by decide +kernel
theorem dX11_failsAtCommand_88 : decode cX11_failsAtCommand 88 = .ok (.iload_n 1, 1) := by decide +kernel
theorem dX11_failsAtCommand_89 : decode cX11_failsAtCommand 89 = .ok (.iastore, 1) := by decide +kernel
theorem dX11_failsAtCommand_90 : decode cX11_failsAtCommand 90 = .ok (.aload_n 0, 1) := by decide +kernel
theorem dX11_failsAtCommand_91 : decode cX11_failsAtCommand 91 = .ok (.getfield 28, 3) := by decide +kernel
theorem dX11_failsAtCommand_94 : decode cX11_failsAtCommand 94 = .ok (.iload_n 2, 1) := by decide +kernel
theorem dX11_failsAtCommand_95 : decode cX11_failsAtCommand 95 = .ok (.iconst 1, 1) := by decide +kernel
theorem dX11_failsAtCommand_96 : decode cX11_failsAtCommand 96 = .ok (.iadd, 1) := by decide +kernel
theorem dX11_failsAtCommand_97 : decode cX11_failsAtCommand 97 = .ok (.aload_n 0, 1) := by decide +kernel
theorem dX11_failsAtCommand_98 : decode cX11_failsAtCommand 98 = .ok (.getfield 232, 3) := by decide +kernel
theorem dX11_failsAtCommand_101 : decode cX11_failsAtCommand 101 = .ok (.iastore, 1) := by decide +kernel
theorem dX11_failsAtCommand_102 : decode cX11_failsAtCommand 102 = .ok (.iconst 0, 1) := by decide +kernel
theorem dX11_failsAtCommand_103 : decode cX11_failsAtCommand 103 = .ok (.istore_n 3, 1) := by decide +kernel
theorem dX11_failsAtCommand_104 : decode cX11_failsAtCommand 104 = .ok (.iload_n 3, 1) := by decide +kernel
theorem dX11_failsAtCommand_105 : decode cX11_failsAtCommand 105 = .ok (.aload_n 0, 1) := by decide +kernel
theorem dX11_failsAtCommand_106 : decode cX11_failsAtCommand 106 = .ok (.getfield 232, 3) := by decide +kernel
theorem dX11_failsAtCommand_109 : decode cX11_failsAtCommand 109 = .ok (.if_icmp .ge 25, 3) := by decide +kernel
theorem dX11_failsAtCommand_112 : decode cX11_failsAtCommand 112 = .ok (.aload_n 0, 1) := by decide +kernel
theorem dX11_failsAtCommand_113 : decode cX11_failsAtCommand 113 = .ok (.getfield 28, 3) := by decide +kernel
theorem dX11_failsAtCommand_116 : decode cX11_failsAtCommand 116 = .ok (.iload_n 2, 1) := by decide +kernel
theorem dX11_failsAtCommand_117 : decode cX11_failsAtCommand 117 = .ok (.iconst 2, 1) := by decide +kernel
theorem dX11_failsAtCommand_118 : decode cX11_failsAtCommand 118 = .ok (.iadd, 1) := by decide +kernel
theorem dX11_failsAtCommand_119 : decode cX11_failsAtCommand 119 = .ok (.iload_n 3, 1) := by decide +kernel
theorem dX11_failsAtCommand_120 : decode cX11_failsAtCommand 120 = .ok (.iadd, 1) := by decide +kernel
theorem dX11_failsAtCommand_121 : decode cX11_failsAtCommand 121 = .ok (.aload_n 0, 1) := by decide +kernel
theorem dX11_failsAtCommand_122 : decode cX11_failsAtCommand 122 = .ok (.getfield 25, 3) := by decide +kernel
theorem dX11_failsAtCommand_125 : decode cX11_failsAtCommand 125 = .ok (.iload_n 3, 1) := by decide +kernel
theorem dX11_failsAtCommand_126 : decode cX11_failsAtCommand 126 = .ok (.iaload, 1) := by decide +kernel
theorem dX11_failsAtCommand_127 : decode cX11_failsAtCommand 127 = .ok (.iastore, 1) := by decide +kernel
theorem dX11_failsAtCommand_128 : decode cX11_failsAtCommand 128 = .ok (.iinc 3 1, 3) := by decide +kernel
theorem dX11_failsAtCommand_131 : decode cX11_failsAtCommand 131 = .ok (.goto (-27), 3) := by decide +kernel
theorem dX11_failsAtCommand_134 : decode cX11_failsAtCommand 134 = .ok (.aload_n 0, 1) := by decide +kernel
theorem dX11_failsAtCommand_135 : decode cX11_failsAtCommand 135 = .ok (.dup, 1) := by decide +kernel
theorem dX11_failsAtCommand_136 : decode cX11_failsAtCommand 136 = .ok (.getfield 208, 3) := by decide +kernel
theorem dX11_failsAtCommand_139 : decode cX11_failsAtCommand 139 = .ok (.iconst 1, 1) := by decide +kernel
theorem dX11_failsAtCommand_140 : decode cX11_failsAtCommand 140 = .ok (.iadd, 1) := by decide +kernel
theorem dX11_failsAtCommand_141 : decode cX11_failsAtCommand 141 = .ok (.putfield 208, 3) := by decide +kernel
theorem dX11_failsAtCommand_144 : decode cX11_failsAtCommand 144 = .ok (.aload_n 0, 1) := by decide +kernel
theorem dX11_failsAtCommand_145 : decode cX11_failsAtCommand 145 = .ok (.invokevirtual 220, 3) := by decide +kernel
theorem dX11_failsAtCommand_148 : decode cX11_failsAtCommand 148 = .ok (.ireturn, 1) := by decide +kernel
theorem dX11_failsAtScript_0 : decode cX11_failsAtScript 0 = .ok (.aload_n 0, 1) := by decide +kernel
theorem dX11_failsAtScript_1 : decode cX11_failsAtScript 1 = .ok (.invokevirtual 238, 3) := by decide +kernel
theorem dX11_failsAtScript_4 : decode cX11_failsAtScript 4 = .ok (.iconst 0, 1) := by decide +kernel
theorem dX11_failsAtScript_5 : decode cX11_failsAtScript 5 = .ok (.istore_n 1, 1) := by decide +kernel
theorem dX11_failsAtScript_6 : decode cX11_failsAtScript 6 = .ok (.iload_n 1, 1) := by decide +kernel
theorem dX11_failsAtScript_7 : decode cX11_failsAtScript 7 = .ok (.sipush 500, 3) := by decide +kernel
theorem dX11_failsAtScript_10 : decode cX11_failsAtScript 10 = .ok (.if_icmp .gt 25, 3) := by decide +kernel
theorem dX11_failsAtScript_13 : decode cX11_failsAtScript 13 = .ok (.aload_n 0, 1) := by decide +kernel
theorem dX11_failsAtScript_14 : decode cX11_failsAtScript 14 = .ok (.getfield 196, 3) := by decide +kernel
theorem dX11_failsAtScript_17 : decode cX11_failsAtScript 17 = .ok (.ifCond .eq 18, 3) := by decide +kernel
theorem dX11_failsAtScript_20 : decode cX11_failsAtScript 20 = .ok (.aload_n 0, 1) := by decide +kernel
theorem dX11_failsAtScript_21 : decode cX11_failsAtScript 21 = .ok (.invokevirtual 265, 3) := by decide +kernel
theorem dX11_failsAtScript_24 : decode cX11_failsAtScript 24 = .ok (.ifCond .eq 5, 3) := by decide +kernel
theorem dX11_failsAtScript_27 : decode cX11_failsAtScript 27 = .ok (.iconst 1, 1) := by decide +kernel
theorem dX11_failsAtScript_28 : decode cX11_failsAtScript 28 = .ok (.ireturn, 1) := by decide +kernel
theorem dX11_failsAtScript_29 : decode cX11_failsAtScript 29 = .ok (.iinc 1 1, 3) := by decide +kernel
theorem dX11_failsAtScript_32 : decode cX11_failsAtScript 32 = .ok (.goto (-26), 3) := by decide +kernel
theorem dX11_failsAtScript_35 : decode cX11_failsAtScript 35 = .ok (.iconst 0, 1) := by decide +kernel
theorem dX11_failsAtScript_36 : decode cX11_failsAtScript 36 = .ok (.ireturn, 1) := by decide +kernel
theorem dX11_isBarrel_0 : decode cX11_isBarrel 0 = .ok (.iload_n 1, 1) := by decide +kernel
theorem dX11_isBarrel_1 : decode cX11_isBarrel 1 = .ok (.ifCond .lt 18, 3) := by decide +kernel
theorem dX11_isBarrel_4 : decode cX11_isBarrel 4 = .ok (.iload_n 1, 1) := by decide +kernel
theorem dX11_isBarrel_5 : decode cX11_isBarrel 5 = .ok (.aload_n 0, 1) := by decide +kernel
theorem dX11_isBarrel_6 : decode cX11_isBarrel 6 = .ok (.getfield 7, 3) := by decide +kernel
theorem dX11_isBarrel_9 : decode cX11_isBarrel 9 = .ok (.bipush 7, 2) := by decide +kernel
theorem dX11_isBarrel_11 : decode cX11_isBarrel 11 = .ok (.iaload, 1) := by decide +kernel
theorem dX11_isBarrel_12 : decode cX11_isBarrel 12 = .ok (.if_icmp .ge 7, 3) := by decide +kernel
theorem dX11_isBarrel_15 : decode cX11_isBarrel 15 = .ok (.iconst 1, 1) := by decide +kernel
theorem dX11_isBarrel_16 : decode cX11_isBarrel 16 = .ok (.goto 4, 3) := by decide +kernel
theorem dX11_isBarrel_19 : decode cX11_isBarrel 19 = .ok (.iconst 0, 1) := by decide +kernel
theorem dX11_isBarrel_20 : decode cX11_isBarrel 20 = .ok (.ireturn, 1) := by decide +kernel
theorem dX11_runBarrel_0 : decode cX11_runBarrel 0 = .ok (.aload_n 0, 1) := by decide +kernel
theorem dX11_runBarrel_1 : decode cX11_runBarrel 1 = .ok (.getfield 7, 3) := by decide +kernel
theorem dX11_runBarrel_4 : decode cX11_runBarrel 4 = .ok (.bipush 7, 2) := by decide +kernel
theorem dX11_runBarrel_6 : decode cX11_runBarrel 6 = .ok (.iaload, 1) := by decide +kernel
theorem dX11_runBarrel_7 : decode cX11_runBarrel 7 = .ok (.bipush 20, 2) := by decide +kernel
theorem dX11_runBarrel_9 : decode cX11_runBarrel 9 = .ok (.if_icmp .ne 5, 3) := by decide +kernel
theorem dX11_runBarrel_12 : decode cX11_runBarrel 12 = .ok (.iconst 0, 1) := by decide +kernel
theorem dX11_runBarrel_13 : decode cX11_runBarrel 13 = .ok (.ireturn, 1) := by decide +kernel
theorem dX11_runBarrel_14 : decode cX11_runBarrel 14 = .ok (.aload_n 0, 1) := by decide +kernel
theorem dX11_runBarrel_15 : decode cX11_runBarrel 15 = .ok (.aload_n 0, 1) := by decide +kernel
theorem dX11_runBarrel_16 : decode cX11_runBarrel 16 = .ok (.getfield 28, 3) := by decide +kernel
theorem dX11_runBarrel_19 : decode cX11_runBarrel 19 = .ok (.iload_n 1, 1) := by decide +kernel
theorem dX11_runBarrel_20 : decode cX11_runBarrel 20 = .ok (.iconst 2, 1) := by decide +kernel
theorem dX11_runBarrel_21 : decode cX11_runBarrel 21 = .ok (.iadd, 1) := by decide +kernel
theorem dX11_runBarrel_22 : decode cX11_runBarrel 22 = .ok (.iaload, 1) := by decide +kernel
theorem dX11_runBarrel_23 : decode cX11_runBarrel 23 = .ok (.invokevirtual 46, 3) := by decide +kernel
theorem dX11_runBarrel_26 : decode cX11_runBarrel 26 = .ok (.istore_n 2, 1) := by decide +kernel
theorem dX11_runBarrel_27 : decode cX11_runBarrel 27 = .ok (.iconst 1, 1) := by decide +kernel
theorem dX11_runBarrel_28 : decode cX11_runBarrel 28 = .ok (.istore_n 3, 1) := by decide +kernel
theorem dX11_runBarrel_29 : decode cX11_runBarrel 29 = .ok (.iload_n 3, 1) := by decide +kernel
theorem dX11_runBarrel_30 : decode cX11_runBarrel 30 = .ok (.aload_n 0, 1) := by decide +kernel
theorem dX11_runBarrel_31 : decode cX11_runBarrel 31 = .ok (.getfield 28, 3) := by decide +kernel
theorem dX11_runBarrel_34 : decode cX11_runBarrel 34 = .ok (.iload_n 1, 1) := by decide +kernel
theorem dX11_runBarrel_35 : decode cX11_runBarrel 35 = .ok (.iconst 1, 1) := by decide +kernel
theorem dX11_runBarrel_36 : decode cX11_runBarrel 36 = .ok (.iadd, 1) := by decide +kernel
theorem dX11_runBarrel_37 : decode cX11_runBarrel 37 = .ok (.iaload, 1) := by decide +kernel
theorem dX11_runBarrel_38 : decode cX11_runBarrel 38 = .ok (.if_icmp .ge 24, 3) := by decide +kernel
theorem dX11_runBarrel_41 : decode cX11_runBarrel 41 = .ok (.aload_n 0, 1) := by decide +kernel
theorem dX11_runBarrel_42 : decode cX11_runBarrel 42 = .ok (.iload_n 2, 1) := by decide +kernel
theorem dX11_runBarrel_43 : decode cX11_runBarrel 43 = .ok (.aload_n 0, 1) := by decide +kernel
theorem dX11_runBarrel_44 : decode cX11_runBarrel 44 = .ok (.getfield 28, 3) := by decide +kernel
theorem dX11_runBarrel_47 : decode cX11_runBarrel 47 = .ok (.iload_n 1, 1) := by decide +kernel
theorem dX11_runBarrel_48 : decode cX11_runBarrel 48 = .ok (.iconst 2, 1) := by decide +kernel
theorem dX11_runBarrel_49 : decode cX11_runBarrel 49 = .ok (.iadd, 1) := by decide +kernel
theorem dX11_runBarrel_50 : decode cX11_runBarrel 50 = .ok (.iload_n 3, 1) := by decide +kernel
theorem dX11_runBarrel_51 : decode cX11_runBarrel 51 = .ok (.iadd, 1) := by decide +kernel
theorem dX11_runBarrel_52 : decode cX11_runBarrel 52 = .ok (.iaload, 1) := by decide +kernel
theorem dX11_runBarrel_53 : decode cX11_runBarrel 53 = .ok (.invokevirtual 50, 3) := by decide +kernel
theorem dX11_runBarrel_56 : decode cX11_runBarrel 56 = .ok (.iinc 3 1, 3) := by decide +kernel
theorem dX11_runBarrel_59 : decode cX11_runBarrel 59 = .ok (.goto (-30), 3) := by decide +kernel
theorem dX11_runBarrel_62 : decode cX11_runBarrel 62 = .ok (.iconst 1, 1) := by decide +kernel
theorem dX11_runBarrel_63 : decode cX11_runBarrel 63 = .ok (.ireturn, 1) := by decide +kernel
theorem dX11_runNod_0 : decode cX11_runNod 0 = .ok (.aload_n 0, 1) := by decide +kernel
theorem dX11_runNod_1 : decode cX11_runNod 1 = .ok (.iload_n 1, 1) := by decide +kernel
theorem dX11_runNod_2 : decode cX11_runNod 2 = .ok (.invokevirtual 116, 3) := by decide +kernel
theorem dX11_runNod_5 : decode cX11_runNod 5 = .ok (.ifCond .le 5, 3) := by decide +kernel
theorem dX11_runNod_8 : decode cX11_runNod 8 = .ok (.iconst 0, 1) := by decide +kernel
theorem dX11_runNod_9 : decode cX11_runNod 9 = .ok (.ireturn, 1) := by decide +kernel
theorem dX11_runNod_10 : decode cX11_runNod 10 = .ok (.aload_n 0, 1) := by decide +kernel
theorem dX11_runNod_11 : decode cX11_runNod 11 = .ok (.iload_n 1, 1) := by decide +kernel
theorem dX11_runNod_12 : decode cX11_runNod 12 = .ok (.invokevirtual 135, 3) := by decide +kernel
theorem dX11_runNod_15 : decode cX11_runNod 15 = .ok (.pop, 1) := by decide +kernel
theorem dX11_runNod_16 : decode cX11_runNod 16 = .ok (.iconst 1, 1) := by decide +kernel
theorem dX11_runNod_17 : decode cX11_runNod 17 = .ok (.ireturn, 1) := by decide +kernel
theorem dX11_runSplit_0 : decode cX11_runSplit 0 = .ok (.aload_n 0, 1) := by decide +kernel
theorem dX11_runSplit_1 : decode cX11_runSplit 1 = .ok (.iload_n 1, 1) := by decide +kernel
theorem dX11_runSplit_2 : decode cX11_runSplit 2 = .ok (.invokevirtual 268, 3) := by decide +kernel
theorem dX11_runSplit_5 : decode cX11_runSplit 5 = .ok (.ifCond .eq 12, 3) := by decide +kernel
theorem dX11_runSplit_8 : decode cX11_runSplit 8 = .ok (.aload_n 0, 1) := by decide +kernel
theorem dX11_runSplit_9 : decode cX11_runSplit 9 = .ok (.iload_n 1, 1) := by decide +kernel
theorem dX11_runSplit_10 : decode cX11_runSplit 10 = .ok (.iload_n 2, 1) := by decide +kernel
theorem dX11_runSplit_11 : decode cX11_runSplit 11 = .ok (.invokevirtual 271, 3) := by decide +kernel
theorem dX11_runSplit_14 : decode cX11_runSplit 14 = .ok (.ifCond .ne 5, 3) := by decide +kernel
theorem dX11_runSplit_17 : decode cX11_runSplit 17 = .ok (.iconst 0, 1) := by decide +kernel
theorem dX11_runSplit_18 : decode cX11_runSplit 18 = .ok (.ireturn, 1) := by decide +kernel
theorem dX11_runSplit_19 : decode cX11_runSplit 19 = .ok (.aload_n 0, 1) := by decide +kernel
theorem dX11_runSplit_20 : decode cX11_runSplit 20 = .ok (.iload_n 1, 1) := by decide +kernel
theorem dX11_runSplit_21 : decode cX11_runSplit 21 = .ok (.iload_n 2, 1) := by decide +kernel
theorem dX11_runSplit_22 : decode cX11_runSplit 22 = .ok (.invokevirtual 275, 3) := by decide +kernel
theorem dX11_runSplit_25 : decode cX11_runSplit 25 = .ok (.pop, 1) := by decide +kernel
theorem dX11_runSplit_26 : decode cX11_runSplit 26 = .ok (.iconst 1, 1) := by decide +kernel
theorem dX11_runSplit_27 : decode cX11_runSplit 27 = .ok (.ireturn, 1) := by decide +kernel
theorem dX11_runWithdraw_0 : decode cX11_runWithdraw 0 = .ok (.aload_n 0, 1) := by decide +kernel
theorem dX11_runWithdraw_1 : decode cX11_runWithdraw 1 = .ok (.iload_n 1, 1) := by decide +kernel
theorem dX11_runWithdraw_2 : decode cX11_runWithdraw 2 = .ok (.invokevirtual 268, 3) := by decide +kernel
theorem dX11_runWithdraw_5 : decode cX11_runWithdraw 5 = .ok (.ifCond .eq 11, 3) := by decide +kernel
theorem dX11_runWithdraw_8 : decode cX11_runWithdraw 8 = .ok (.aload_n 0, 1) := by decide +kernel
theorem dX11_runWithdraw_9 : decode cX11_runWithdraw 9 = .ok (.iload_n 1, 1) := by decide +kernel
theorem dX11_runWithdraw_10 : decode cX11_runWithdraw 10 = .ok (.invokevirtual 156, 3) := by decide +kernel
theorem dX11_runWithdraw_13 : decode cX11_runWithdraw 13 = .ok (.ifCond .ne 5, 3) := by decide +kernel
theorem dX11_runWithdraw_16 : decode cX11_runWithdraw 16 = .ok (.iconst 0, 1) := by decide +kernel
theorem dX11_runWithdraw_17 : decode cX11_runWithdraw 17 = .ok (.ireturn, 1) := by decide +kernel
theorem dX11_runWithdraw_18 : decode cX11_runWithdraw 18 = .ok (.aload_n 0, 1) := by decide +kernel
theorem dX11_runWithdraw_19 : decode cX11_runWithdraw 19 = .ok (.iload_n 1, 1) := by decide +kernel
theorem dX11_runWithdraw_20 : decode cX11_runWithdraw 20 = .ok (.invokevirtual 278, 3) := by decide +kernel
theorem dX11_runWithdraw_23 : decode cX11_runWithdraw 23 = .ok (.pop, 1) := by decide +kernel
theorem dX11_runWithdraw_24 : decode cX11_runWithdraw 24 = .ok (.iconst 1, 1) := by decide +kernel
theorem dX11_runWithdraw_25 : decode cX11_runWithdraw 25 = .ok (.ireturn, 1) := by decide +kernel
theorem dX11_execute_0 : decode cX11_execute 0 = .ok (.aload_n 0, 1) := by decide +kernel
theorem dX11_execute_1 : decode cX11_execute 1 = .ok (.getfield 28, 3) := by decide +kernel
theorem dX11_execute_4 : decode cX11_execute 4 = .ok (.iload_n 1, 1) := by decide +kernel
theorem dX11_execute_5 : decode cX11_execute 5 = .ok (.iconst 2, 1) := by decide +kernel
theorem dX11_execute_6 : decode cX11_execute 6 = .ok (.iadd, 1) := by decide +kernel
theorem dX11_execute_7 : decode cX11_execute 7 = .ok (.iaload, 1) := by decide +kernel
theorem dX11_execute_8 : decode cX11_execute 8 = .ok (.istore_n 2, 1) := by decide +kernel
theorem dX11_execute_9 : decode cX11_execute 9 = .ok (.aload_n 0, 1) := by decide +kernel
theorem dX11_execute_10 : decode cX11_execute 10 = .ok (.getfield 28, 3) := by decide +kernel
theorem dX11_execute_13 : decode cX11_execute 13 = .ok (.iload_n 1, 1) := by decide +kernel
theorem dX11_execute_14 : decode cX11_execute 14 = .ok (.iconst 3, 1) := by decide +kernel
theorem dX11_execute_15 : decode cX11_execute 15 = .ok (.iadd, 1) := by decide +kernel
theorem dX11_execute_16 : decode cX11_execute 16 = .ok (.iaload, 1) := by decide +kernel
theorem dX11_execute_17 : decode cX11_execute 17 = .ok (.istore_n 3, 1) := by decide +kernel
theorem dX11_execute_18 : decode cX11_execute 18 = .ok (.aload_n 0, 1) := by decide +kernel
theorem dX11_execute_19 : decode cX11_execute 19 = .ok (.getfield 28, 3) := by decide +kernel
theorem dX11_execute_22 : decode cX11_execute 22 = .ok (.iload_n 1, 1) := by decide +kernel
theorem dX11_execute_23 : decode cX11_execute 23 = .ok (.iaload, 1) := by decide +kernel
theorem dX11_execute_24 : decode cX11_execute 24 = .ok (.tableswitch 74 2 7 #[40, 46, 74, 52, 65, 59], 40) := by decide +kernel
theorem dX11_execute_64 : decode cX11_execute 64 = .ok (.aload_n 0, 1) := by decide +kernel
theorem dX11_execute_65 : decode cX11_execute 65 = .ok (.iload_n 1, 1) := by decide +kernel
theorem dX11_execute_66 : decode cX11_execute 66 = .ok (.invokevirtual 281, 3) := by decide +kernel
theorem dX11_execute_69 : decode cX11_execute 69 = .ok (.ireturn, 1) := by decide +kernel
theorem dX11_execute_70 : decode cX11_execute 70 = .ok (.aload_n 0, 1) := by decide +kernel
theorem dX11_execute_71 : decode cX11_execute 71 = .ok (.iload_n 2, 1) := by decide +kernel
theorem dX11_execute_72 : decode cX11_execute 72 = .ok (.invokevirtual 284, 3) := by decide +kernel
theorem dX11_execute_75 : decode cX11_execute 75 = .ok (.ireturn, 1) := by decide +kernel
theorem dX11_execute_76 : decode cX11_execute 76 = .ok (.aload_n 0, 1) := by decide +kernel
theorem dX11_execute_77 : decode cX11_execute 77 = .ok (.iload_n 2, 1) := by decide +kernel
theorem dX11_execute_78 : decode cX11_execute 78 = .ok (.iload_n 3, 1) := by decide +kernel
theorem dX11_execute_79 : decode cX11_execute 79 = .ok (.invokevirtual 287, 3) := by decide +kernel
theorem dX11_execute_82 : decode cX11_execute 82 = .ok (.ireturn, 1) := by decide +kernel
theorem dX11_execute_83 : decode cX11_execute 83 = .ok (.aload_n 0, 1) := by decide +kernel
theorem dX11_execute_84 : decode cX11_execute 84 = .ok (.iload_n 2, 1) := by decide +kernel
theorem dX11_execute_85 : decode cX11_execute 85 = .ok (.invokevirtual 290, 3) := by decide +kernel
theorem dX11_execute_88 : decode cX11_execute 88 = .ok (.ireturn, 1) := by decide +kernel
theorem dX11_execute_89 : decode cX11_execute 89 = .ok (.aload_n 0, 1) := by decide +kernel
theorem dX11_execute_90 : decode cX11_execute 90 = .ok (.iload_n 2, 1) := by decide +kernel
theorem dX11_execute_91 : decode cX11_execute 91 = .ok (.iload_n 3, 1) := by decide +kernel
theorem dX11_execute_92 : decode cX11_execute 92 = .ok (.invokevirtual 293, 3) := by decide +kernel
theorem dX11_execute_95 : decode cX11_execute 95 = .ok (.pop, 1) := by decide +kernel
theorem dX11_execute_96 : decode cX11_execute 96 = .ok (.iconst 1, 1) := by decide +kernel
theorem dX11_execute_97 : decode cX11_execute 97 = .ok (.ireturn, 1) := by decide +kernel
theorem dX11_execute_98 : decode cX11_execute 98 = .ok (.aload_n 0, 1) := by decide +kernel
theorem dX11_execute_99 : decode cX11_execute 99 = .ok (.iload_n 2, 1) := by decide +kernel
theorem dX11_execute_100 : decode cX11_execute 100 = .ok (.invokevirtual 296, 3) := by decide +kernel
theorem dX11_execute_103 : decode cX11_execute 103 = .ok (.pop, 1) := by decide +kernel
theorem dX11_execute_104 : decode cX11_execute 104 = .ok (.iconst 1, 1) := by decide +kernel
theorem dX11_execute_105 : decode cX11_execute 105 = .ok (.ireturn, 1) := by decide +kernel
theorem dX11_runScript_0 : decode cX11_runScript 0 = .ok (.aload_n 0, 1) := by decide +kernel
theorem dX11_runScript_1 : decode cX11_runScript 1 = .ok (.iconst 0, 1) := by decide +kernel
theorem dX11_runScript_2 : decode cX11_runScript 2 = .ok (.putfield 54, 3) := by decide +kernel
theorem dX11_runScript_5 : decode cX11_runScript 5 = .ok (.aload_n 0, 1) := by decide +kernel
theorem dX11_runScript_6 : decode cX11_runScript 6 = .ok (.invokevirtual 299, 3) := by decide +kernel
theorem dX11_runScript_9 : decode cX11_runScript 9 = .ok (.istore_n 1, 1) := by decide +kernel
theorem dX11_runScript_10 : decode cX11_runScript 10 = .ok (.aload_n 0, 1) := by decide +kernel
theorem dX11_runScript_11 : decode cX11_runScript 11 = .ok (.iconst 0, 1) := by decide +kernel
theorem dX11_runScript_12 : decode cX11_runScript 12 = .ok (.putfield 163, 3) := by decide +kernel
theorem dX11_runScript_15 : decode cX11_runScript 15 = .ok (.aload_n 0, 1) := by decide +kernel
theorem dX11_runScript_16 : decode cX11_runScript 16 = .ok (.iload_n 1, 1) := by decide +kernel
theorem dX11_runScript_17 : decode cX11_runScript 17 = .ok (.iconst 1, 1) := by decide +kernel
theorem dX11_runScript_18 : decode cX11_runScript 18 = .ok (.invokevirtual 166, 3) := by decide +kernel
theorem dX11_runScript_21 : decode cX11_runScript 21 = .ok (.ifCond .eq 5, 3) := by decide +kernel
theorem dX11_runScript_24 : decode cX11_runScript 24 = .ok (.iconst 0, 1) := by decide +kernel
theorem dX11_runScript_25 : decode cX11_runScript 25 = .ok (.ireturn, 1) := by decide +kernel
theorem dX11_runScript_26 : decode cX11_runScript 26 = .ok (.aload_n 0, 1) := by decide +kernel
theorem dX11_runScript_27 : decode cX11_runScript 27 = .ok (.iconst 0, 1) := by decide +kernel
theorem dX11_runScript_28 : decode cX11_runScript 28 = .ok (.invokevirtual 253, 3) := by decide +kernel
theorem dX11_runScript_31 : decode cX11_runScript 31 = .ok (.iconst 0, 1) := by decide +kernel
theorem dX11_runScript_32 : decode cX11_runScript 32 = .ok (.istore_n 2, 1) := by decide +kernel
theorem dX11_runScript_33 : decode cX11_runScript 33 = .ok (.iload_n 2, 1) := by decide +kernel
theorem dX11_runScript_34 : decode cX11_runScript 34 = .ok (.aload_n 0, 1) := by decide +kernel
theorem dX11_runScript_35 : decode cX11_runScript 35 = .ok (.getfield 208, 3) := by decide +kernel
theorem dX11_runScript_38 : decode cX11_runScript 38 = .ok (.if_icmp .ge 22, 3) := by decide +kernel
theorem dX11_runScript_41 : decode cX11_runScript 41 = .ok (.aload_n 0, 1) := by decide +kernel
theorem dX11_runScript_42 : decode cX11_runScript 42 = .ok (.bipush 13, 2) := by decide +kernel
theorem dX11_runScript_44 : decode cX11_runScript 44 = .ok (.iload_n 2, 1) := by decide +kernel
theorem dX11_runScript_45 : decode cX11_runScript 45 = .ok (.imul, 1) := by decide +kernel
theorem dX11_runScript_46 : decode cX11_runScript 46 = .ok (.invokevirtual 302, 3) := by decide +kernel
theorem dX11_runScript_49 : decode cX11_runScript 49 = .ok (.ifCond .ne 5, 3) := by decide +kernel
theorem dX11_runScript_52 : decode cX11_runScript 52 = .ok (.iload_n 2, 1) := by decide +kernel
theorem dX11_runScript_53 : decode cX11_runScript 53 = .ok (.ireturn, 1) := by decide +kernel
theorem dX11_runScript_54 : decode cX11_runScript 54 = .ok (.iinc 2 1, 3) := by decide +kernel
theorem dX11_runScript_57 : decode cX11_runScript 57 = .ok (.goto (-24), 3) := by decide +kernel
theorem dX11_runScript_60 : decode cX11_runScript 60 = .ok (.aload_n 0, 1) := by decide +kernel
theorem dX11_runScript_61 : decode cX11_runScript 61 = .ok (.getfield 208, 3) := by decide +kernel
theorem dX11_runScript_64 : decode cX11_runScript 64 = .ok (.ireturn, 1) := by decide +kernel
theorem dX11_lacksBuyer_0 : decode cX11_lacksBuyer 0 = .ok (.aload_n 0, 1) := by decide +kernel
theorem dX11_lacksBuyer_1 : decode cX11_lacksBuyer 1 = .ok (.iconst 0, 1) := by decide +kernel
theorem dX11_lacksBuyer_2 : decode cX11_lacksBuyer 2 = .ok (.putfield 54, 3) := by decide +kernel
theorem dX11_lacksBuyer_5 : decode cX11_lacksBuyer 5 = .ok (.aload_n 0, 1) := by decide +kernel
theorem dX11_lacksBuyer_6 : decode cX11_lacksBuyer 6 = .ok (.iload_n 1, 1) := by decide +kernel
theorem dX11_lacksBuyer_7 : decode cX11_lacksBuyer 7 = .ok (.iconst 0, 1) := by decide +kernel
theorem dX11_lacksBuyer_8 : decode cX11_lacksBuyer 8 = .ok (.aload_n 0, 1) := by decide +kernel
theorem dX11_lacksBuyer_9 : decode cX11_lacksBuyer 9 = .ok (.getfield 7, 3) := by decide +kernel
theorem dX11_lacksBuyer_12 : decode cX11_lacksBuyer 12 = .ok (.bipush 6, 2) := by decide +kernel
theorem dX11_lacksBuyer_14 : decode cX11_lacksBuyer 14 = .ok (.iaload, 1) := by decide +kernel
theorem dX11_lacksBuyer_15 : decode cX11_lacksBuyer 15 = .ok (.iconst 1, 1) := by decide +kernel
theorem dX11_lacksBuyer_16 : decode cX11_lacksBuyer 16 = .ok (.isub, 1) := by decide +kernel
theorem dX11_lacksBuyer_17 : decode cX11_lacksBuyer 17 = .ok (.invokestatic 173, 3) := by decide +kernel
theorem dX11_lacksBuyer_20 : decode cX11_lacksBuyer 20 = .ok (.ifCond .ne 7, 3) := by decide +kernel
theorem dX11_lacksBuyer_23 : decode cX11_lacksBuyer 23 = .ok (.iconst 1, 1) := by decide +kernel
theorem dX11_lacksBuyer_24 : decode cX11_lacksBuyer 24 = .ok (.goto 4, 3) := by decide +kernel
theorem dX11_lacksBuyer_27 : decode cX11_lacksBuyer 27 = .ok (.iconst 0, 1) := by decide +kernel
theorem dX11_lacksBuyer_28 : decode cX11_lacksBuyer 28 = .ok (.iconst 1, 1) := by decide +kernel
theorem dX11_lacksBuyer_29 : decode cX11_lacksBuyer 29 = .ok (.invokevirtual 166, 3) := by decide +kernel
theorem dX11_lacksBuyer_32 : decode cX11_lacksBuyer 32 = .ok (.ireturn, 1) := by decide +kernel
theorem dX11_lacksBarrel_0 : decode cX11_lacksBarrel 0 = .ok (.aload_n 0, 1) := by decide +kernel
theorem dX11_lacksBarrel_1 : decode cX11_lacksBarrel 1 = .ok (.iconst 0, 1) := by decide +kernel
theorem dX11_lacksBarrel_2 : decode cX11_lacksBarrel 2 = .ok (.putfield 54, 3) := by decide +kernel
theorem dX11_lacksBarrel_5 : decode cX11_lacksBarrel 5 = .ok (.aload_n 0, 1) := by decide +kernel
theorem dX11_lacksBarrel_6 : decode cX11_lacksBarrel 6 = .ok (.aload_n 0, 1) := by decide +kernel
theorem dX11_lacksBarrel_7 : decode cX11_lacksBarrel 7 = .ok (.iload_n 1, 1) := by decide +kernel
theorem dX11_lacksBarrel_8 : decode cX11_lacksBarrel 8 = .ok (.invokevirtual 268, 3) := by decide +kernel
theorem dX11_lacksBarrel_11 : decode cX11_lacksBarrel 11 = .ok (.ifCond .ne 7, 3) := by decide +kernel
theorem dX11_lacksBarrel_14 : decode cX11_lacksBarrel 14 = .ok (.iconst 1, 1) := by decide +kernel
theorem dX11_lacksBarrel_15 : decode cX11_lacksBarrel 15 = .ok (.goto 4, 3) := by decide +kernel
theorem dX11_lacksBarrel_18 : decode cX11_lacksBarrel 18 = .ok (.iconst 0, 1) := by decide +kernel
theorem dX11_lacksBarrel_19 : decode cX11_lacksBarrel 19 = .ok (.iconst 1, 1) := by decide +kernel
theorem dX11_lacksBarrel_20 : decode cX11_lacksBarrel 20 = .ok (.invokevirtual 166, 3) := by decide +kernel
theorem dX11_lacksBarrel_23 : decode cX11_lacksBarrel 23 = .ok (.ireturn, 1) := by decide +kernel
theorem dX11_nod_0 : decode cX11_nod 0 = .ok (.aload_n 0, 1) := by decide +kernel
theorem dX11_nod_1 : decode cX11_nod 1 = .ok (.iload_n 1, 1) := by decide +kernel
theorem dX11_nod_2 : decode cX11_nod 2 = .ok (.invokevirtual 305, 3) := by decide +kernel
theorem dX11_nod_5 : decode cX11_nod 5 = .ok (.ifCond .ne 24, 3) := by decide +kernel
theorem dX11_nod_8 : decode cX11_nod 8 = .ok (.aload_n 0, 1) := by decide +kernel
theorem dX11_nod_9 : decode cX11_nod 9 = .ok (.aload_n 0, 1) := by decide +kernel
theorem dX11_nod_10 : decode cX11_nod 10 = .ok (.iload_n 1, 1) := by decide +kernel
theorem dX11_nod_11 : decode cX11_nod 11 = .ok (.invokevirtual 116, 3) := by decide +kernel
theorem dX11_nod_14 : decode cX11_nod 14 = .ok (.ifCond .le 7, 3) := by decide +kernel
theorem dX11_nod_17 : decode cX11_nod 17 = .ok (.iconst 1, 1) := by decide +kernel
theorem dX11_nod_18 : decode cX11_nod 18 = .ok (.goto 4, 3) := by decide +kernel
theorem dX11_nod_21 : decode cX11_nod 21 = .ok (.iconst 0, 1) := by decide +kernel
theorem dX11_nod_22 : decode cX11_nod 22 = .ok (.iconst 2, 1) := by decide +kernel
theorem dX11_nod_23 : decode cX11_nod 23 = .ok (.invokevirtual 166, 3) := by decide +kernel
theorem dX11_nod_26 : decode cX11_nod 26 = .ok (.ifCond .eq 5, 3) := by decide +kernel
theorem dX11_nod_29 : decode cX11_nod 29 = .ok (.iconst 0, 1) := by decide +kernel
theorem dX11_nod_30 : decode cX11_nod 30 = .ok (.ireturn, 1) := by decide +kernel
theorem dX11_nod_31 : decode cX11_nod 31 = .ok (.aload_n 0, 1) := by decide +kernel
theorem dX11_nod_32 : decode cX11_nod 32 = .ok (.iconst 0, 1) := by decide +kernel
theorem dX11_nod_33 : decode cX11_nod 33 = .ok (.invokevirtual 253, 3) := by decide +kernel
theorem dX11_nod_36 : decode cX11_nod 36 = .ok (.aload_n 0, 1) := by decide +kernel
theorem dX11_nod_37 : decode cX11_nod 37 = .ok (.iload_n 1, 1) := by decide +kernel
theorem dX11_nod_38 : decode cX11_nod 38 = .ok (.invokevirtual 135, 3) := by decide +kernel
theorem dX11_nod_41 : decode cX11_nod 41 = .ok (.ireturn, 1) := by decide +kernel
theorem dX11_passMinutes_0 : decode cX11_passMinutes 0 = .ok (.aload_n 0, 1) := by decide +kernel
theorem dX11_passMinutes_1 : decode cX11_passMinutes 1 = .ok (.iconst 0, 1) := by decide +kernel
theorem dX11_passMinutes_2 : decode cX11_passMinutes 2 = .ok (.putfield 54, 3) := by decide +kernel
theorem dX11_passMinutes_5 : decode cX11_passMinutes 5 = .ok (.aload_n 0, 1) := by decide +kernel
theorem dX11_passMinutes_6 : decode cX11_passMinutes 6 = .ok (.iload_n 1, 1) := by decide +kernel
theorem dX11_passMinutes_7 : decode cX11_passMinutes 7 = .ok (.iconst 1, 1) := by decide +kernel
theorem dX11_passMinutes_8 : decode cX11_passMinutes 8 = .ok (.sipush 200, 3) := by decide +kernel
theorem dX11_passMinutes_11 : decode cX11_passMinutes 11 = .ok (.invokestatic 173, 3) := by decide +kernel
theorem dX11_passMinutes_14 : decode cX11_passMinutes 14 = .ok (.ifCond .ne 7, 3) := by decide +kernel
theorem dX11_passMinutes_17 : decode cX11_passMinutes 17 = .ok (.iconst 1, 1) := by decide +kernel
theorem dX11_passMinutes_18 : decode cX11_passMinutes 18 = .ok (.goto 4, 3) := by decide +kernel
theorem dX11_passMinutes_21 : decode cX11_passMinutes 21 = .ok (.iconst 0, 1) := by decide +kernel
theorem dX11_passMinutes_22 : decode cX11_passMinutes 22 = .ok (.iconst 1, 1) := by decide +kernel
theorem dX11_passMinutes_23 : decode cX11_passMinutes 23 = .ok (.invokevirtual 166, 3) := by decide +kernel
theorem dX11_passMinutes_26 : decode cX11_passMinutes 26 = .ok (.ifCond .eq 5, 3) := by decide +kernel
theorem dX11_passMinutes_29 : decode cX11_passMinutes 29 = .ok (.iconst 0, 1) := by decide +kernel
theorem dX11_passMinutes_30 : decode cX11_passMinutes 30 = .ok (.ireturn, 1) := by decide +kernel
theorem dX11_passMinutes_31 : decode cX11_passMinutes 31 = .ok (.aload_n 0, 1) := by decide +kernel
theorem dX11_passMinutes_32 : decode cX11_passMinutes 32 = .ok (.iconst 0, 1) := by decide +kernel
theorem dX11_passMinutes_33 : decode cX11_passMinutes 33 = .ok (.invokevirtual 253, 3) := by decide +kernel
theorem dX11_passMinutes_36 : decode cX11_passMinutes 36 = .ok (.aload_n 0, 1) := by decide +kernel
theorem dX11_passMinutes_37 : decode cX11_passMinutes 37 = .ok (.iload_n 1, 1) := by decide +kernel
theorem dX11_passMinutes_38 : decode cX11_passMinutes 38 = .ok (.invokevirtual 296, 3) := by decide +kernel
theorem dX11_passMinutes_41 : decode cX11_passMinutes 41 = .ok (.ireturn, 1) := by decide +kernel
theorem dX11_addBarrel_0 : decode cX11_addBarrel 0 = .ok (.aload_n 0, 1) := by decide +kernel
theorem dX11_addBarrel_1 : decode cX11_addBarrel 1 = .ok (.iconst 0, 1) := by decide +kernel
theorem dX11_addBarrel_2 : decode cX11_addBarrel 2 = .ok (.putfield 54, 3) := by decide +kernel
theorem dX11_addBarrel_5 : decode cX11_addBarrel 5 = .ok (.aload_n 0, 1) := by decide +kernel
theorem dX11_addBarrel_6 : decode cX11_addBarrel 6 = .ok (.iload_n 1, 1) := by decide +kernel
theorem dX11_addBarrel_7 : decode cX11_addBarrel 7 = .ok (.iconst 1, 1) := by decide +kernel
theorem dX11_addBarrel_8 : decode cX11_addBarrel 8 = .ok (.sipush 999, 3) := by decide +kernel
theorem dX11_addBarrel_11 : decode cX11_addBarrel 11 = .ok (.invokestatic 173, 3) := by decide +kernel
theorem dX11_addBarrel_14 : decode cX11_addBarrel 14 = .ok (.ifCond .eq 25, 3) := by decide +kernel
theorem dX11_addBarrel_17 : decode cX11_addBarrel 17 = .ok (.iload_n 2, 1) := by decide +kernel
theorem dX11_addBarrel_18 : decode cX11_addBarrel 18 = .ok (.iconst 1, 1) := by decide +kernel
theorem dX11_addBarrel_19 : decode cX11_addBarrel 19 = .ok (.bipush 9, 2) := by decide +kernel
theorem dX11_addBarrel_21 : decode cX11_addBarrel 21 = .ok (.invokestatic 173, 3) := by decide +kernel
theorem dX11_addBarrel_24 : decode cX11_addBarrel 24 = .ok (.ifCond .eq 15, 3) := by decide +kernel
theorem dX11_addBarrel_27 : decode cX11_addBarrel 27 = .ok (.iload_n 3, 1) := by decide +kernel
theorem dX11_addBarrel_28 : decode cX11_addBarrel 28 = .ok (.bipush 10, 2) := by decide +kernel
theorem dX11_addBarrel_30 : decode cX11_addBarrel 30 = .ok (.sipush 150, 3) := by decide +kernel
theorem dX11_addBarrel_33 : decode cX11_addBarrel 33 = .ok (.invokestatic 173, 3) := by decide +kernel
theorem dX11_addBarrel_36 : decode cX11_addBarrel 36 = .ok (.ifCond .ne 7, 3) := by decide +kernel
theorem dX11_addBarrel_39 : decode cX11_addBarrel 39 = .ok (.iconst 1, 1) := by decide +kernel
theorem dX11_addBarrel_40 : decode cX11_addBarrel 40 = .ok (.goto 4, 3) := by decide +kernel
theorem dX11_addBarrel_43 : decode cX11_addBarrel 43 = .ok (.iconst 0, 1) := by decide +kernel
theorem dX11_addBarrel_44 : decode cX11_addBarrel 44 = .ok (.iconst 1, 1) := by decide +kernel
theorem dX11_addBarrel_45 : decode cX11_addBarrel 45 = .ok (.invokevirtual 166, 3) := by decide +kernel
theorem dX11_addBarrel_48 : decode cX11_addBarrel 48 = .ok (.ifCond .eq 5, 3) := by decide +kernel
theorem dX11_addBarrel_51 : decode cX11_addBarrel 51 = .ok (.iconst 0, 1) := by decide +kernel
theorem dX11_addBarrel_52 : decode cX11_addBarrel 52 = .ok (.ireturn, 1) := by decide +kernel
theorem dX11_addBarrel_53 : decode cX11_addBarrel 53 = .ok (.aload_n 0, 1) := by decide +kernel
theorem dX11_addBarrel_54 : decode cX11_addBarrel 54 = .ok (.aload_n 0, 1) := by decide +kernel
theorem dX11_addBarrel_55 : decode cX11_addBarrel 55 = .ok (.getfield 7, 3) := by decide +kernel
theorem dX11_addBarrel_58 : decode cX11_addBarrel 58 = .ok (.bipush 7, 2) := by decide +kernel
theorem dX11_addBarrel_60 : decode cX11_addBarrel 60 = .ok (.iaload, 1) := by decide +kernel
theorem dX11_addBarrel_61 : decode cX11_addBarrel 61 = .ok (.bipush 20, 2) := by decide +kernel
theorem dX11_addBarrel_63 : decode cX11_addBarrel 63 = .ok (.if_icmp .ne 7, 3) := by decide +kernel
theorem dX11_addBarrel_66 : decode cX11_addBarrel 66 = .ok (.iconst 1, 1) := by decide +kernel
theorem dX11_addBarrel_67 : decode cX11_addBarrel 67 = .ok (.goto 4, 3) := by decide +kernel
theorem dX11_addBarrel_70 : decode cX11_addBarrel 70 = .ok (.iconst 0, 1) := by decide +kernel
theorem dX11_addBarrel_71 : decode cX11_addBarrel 71 = .ok (.iconst 2, 1) := by decide +kernel
theorem dX11_addBarrel_72 : decode cX11_addBarrel 72 = .ok (.invokevirtual 166, 3) := by decide +kernel
theorem dX11_addBarrel_75 : decode cX11_addBarrel 75 = .ok (.ifCond .eq 5, 3) := by decide +kernel
theorem dX11_addBarrel_78 : decode cX11_addBarrel 78 = .ok (.iconst 0, 1) := by decide +kernel
theorem dX11_addBarrel_79 : decode cX11_addBarrel 79 = .ok (.ireturn, 1) := by decide +kernel
theorem dX11_addBarrel_80 : decode cX11_addBarrel 80 = .ok (.aload_n 0, 1) := by decide +kernel
theorem dX11_addBarrel_81 : decode cX11_addBarrel 81 = .ok (.iconst 0, 1) := by decide +kernel
theorem dX11_addBarrel_82 : decode cX11_addBarrel 82 = .ok (.invokevirtual 253, 3) := by decide +kernel
theorem dX11_addBarrel_85 : decode cX11_addBarrel 85 = .ok (.aload_n 0, 1) := by decide +kernel
theorem dX11_addBarrel_86 : decode cX11_addBarrel 86 = .ok (.iload_n 1, 1) := by decide +kernel
theorem dX11_addBarrel_87 : decode cX11_addBarrel 87 = .ok (.invokevirtual 46, 3) := by decide +kernel
theorem dX11_addBarrel_90 : decode cX11_addBarrel 90 = .ok (.istore 4, 2) := by decide +kernel
theorem dX11_addBarrel_92 : decode cX11_addBarrel 92 = .ok (.iconst 0, 1) := by decide +kernel
theorem dX11_addBarrel_93 : decode cX11_addBarrel 93 = .ok (.istore 5, 2) := by decide +kernel
theorem dX11_addBarrel_95 : decode cX11_addBarrel 95 = .ok (.iload 5, 2) := by decide +kernel
theorem dX11_addBarrel_97 : decode cX11_addBarrel 97 = .ok (.iload_n 2, 1) := by decide +kernel
theorem dX11_addBarrel_98 : decode cX11_addBarrel 98 = .ok (.if_icmp .ge 16, 3) := by decide +kernel
theorem dX11_addBarrel_101 : decode cX11_addBarrel 101 = .ok (.aload_n 0, 1) := by decide +kernel
theorem dX11_addBarrel_102 : decode cX11_addBarrel 102 = .ok (.iload 4, 2) := by decide +kernel
theorem dX11_addBarrel_104 : decode cX11_addBarrel 104 = .ok (.iload_n 3, 1) := by decide +kernel
theorem dX11_addBarrel_105 : decode cX11_addBarrel 105 = .ok (.invokevirtual 50, 3) := by decide +kernel
theorem dX11_addBarrel_108 : decode cX11_addBarrel 108 = .ok (.iinc 5 1, 3) := by decide +kernel
theorem dX11_addBarrel_111 : decode cX11_addBarrel 111 = .ok (.goto (-16), 3) := by decide +kernel
theorem dX11_addBarrel_114 : decode cX11_addBarrel 114 = .ok (.iload 4, 2) := by decide +kernel
theorem dX11_addBarrel_116 : decode cX11_addBarrel 116 = .ok (.ireturn, 1) := by decide +kernel
theorem dX11_split_0 : decode cX11_split 0 = .ok (.aload_n 0, 1) := by decide +kernel
theorem dX11_split_1 : decode cX11_split 1 = .ok (.iload_n 1, 1) := by decide +kernel
theorem dX11_split_2 : decode cX11_split 2 = .ok (.invokevirtual 308, 3) := by decide +kernel
theorem dX11_split_5 : decode cX11_split 5 = .ok (.ifCond .ne 26, 3) := by decide +kernel
theorem dX11_split_8 : decode cX11_split 8 = .ok (.aload_n 0, 1) := by decide +kernel
theorem dX11_split_9 : decode cX11_split 9 = .ok (.iload_n 2, 1) := by decide +kernel
theorem dX11_split_10 : decode cX11_split 10 = .ok (.iconst 1, 1) := by decide +kernel
theorem dX11_split_11 : decode cX11_split 11 = .ok (.bipush 8, 2) := by decide +kernel
theorem dX11_split_13 : decode cX11_split 13 = .ok (.invokestatic 173, 3) := by decide +kernel
theorem dX11_split_16 : decode cX11_split 16 = .ok (.ifCond .ne 7, 3) := by decide +kernel
theorem dX11_split_19 : decode cX11_split 19 = .ok (.iconst 1, 1) := by decide +kernel
theorem dX11_split_20 : decode cX11_split 20 = .ok (.goto 4, 3) := by decide +kernel
theorem dX11_split_23 : decode cX11_split 23 = .ok (.iconst 0, 1) := by decide +kernel
theorem dX11_split_24 : decode cX11_split 24 = .ok (.iconst 2, 1) := by decide +kernel
theorem dX11_split_25 : decode cX11_split 25 = .ok (.invokevirtual 166, 3) := by decide +kernel
theorem dX11_split_28 : decode cX11_split 28 = .ok (.ifCond .eq 5, 3) := by decide +kernel
theorem dX11_split_31 : decode cX11_split 31 = .ok (.iconst 0, 1) := by decide +kernel
theorem dX11_split_32 : decode cX11_split 32 = .ok (.ireturn, 1) := by decide +kernel
theorem dX11_split_33 : decode cX11_split 33 = .ok (.aload_n 0, 1) := by decide +kernel
theorem dX11_split_34 : decode cX11_split 34 = .ok (.aload_n 0, 1) := by decide +kernel
theorem dX11_split_35 : decode cX11_split 35 = .ok (.iload_n 1, 1) := by decide +kernel
theorem dX11_split_36 : decode cX11_split 36 = .ok (.iload_n 2, 1) := by decide +kernel
theorem dX11_split_37 : decode cX11_split 37 = .ok (.invokevirtual 271, 3) := by decide +kernel
theorem dX11_split_40 : decode cX11_split 40 = .ok (.ifCond .ne 7, 3) := by decide +kernel
theorem dX11_split_43 : decode cX11_split 43 = .ok (.iconst 1, 1) := by decide +kernel
theorem dX11_split_44 : decode cX11_split 44 = .ok (.goto 4, 3) := by decide +kernel
theorem dX11_split_47 : decode cX11_split 47 = .ok (.iconst 0, 1) := by decide +kernel
theorem dX11_split_48 : decode cX11_split 48 = .ok (.iconst 3, 1) := by decide +kernel
theorem dX11_split_49 : decode cX11_split 49 = .ok (.invokevirtual 166, 3) := by decide +kernel
theorem dX11_split_52 : decode cX11_split 52 = .ok (.ifCond .eq 5, 3) := by decide +kernel
theorem dX11_split_55 : decode cX11_split 55 = .ok (.iconst 0, 1) := by decide +kernel
theorem dX11_split_56 : decode cX11_split 56 = .ok (.ireturn, 1) := by decide +kernel
theorem dX11_split_57 : decode cX11_split 57 = .ok (.aload_n 0, 1) := by decide +kernel
theorem dX11_split_58 : decode cX11_split 58 = .ok (.iconst 0, 1) := by decide +kernel
theorem dX11_split_59 : decode cX11_split 59 = .ok (.invokevirtual 253, 3) := by decide +kernel
theorem dX11_split_62 : decode cX11_split 62 = .ok (.aload_n 0, 1) := by decide +kernel
theorem dX11_split_63 : decode cX11_split 63 = .ok (.iload_n 1, 1) := by decide +kernel
theorem dX11_split_64 : decode cX11_split 64 = .ok (.iload_n 2, 1) := by decide +kernel
theorem dX11_split_65 : decode cX11_split 65 = .ok (.invokevirtual 275, 3) := by decide +kernel
theorem dX11_split_68 : decode cX11_split 68 = .ok (.ireturn, 1) := by decide +kernel
theorem dX11_withdraw_0 : decode cX11_withdraw 0 = .ok (.aload_n 0, 1) := by decide +kernel
theorem dX11_withdraw_1 : decode cX11_withdraw 1 = .ok (.iload_n 1, 1) := by decide +kernel
theorem dX11_withdraw_2 : decode cX11_withdraw 2 = .ok (.invokevirtual 308, 3) := by decide +kernel
theorem dX11_withdraw_5 : decode cX11_withdraw 5 = .ok (.ifCond .ne 24, 3) := by decide +kernel
theorem dX11_withdraw_8 : decode cX11_withdraw 8 = .ok (.aload_n 0, 1) := by decide +kernel
theorem dX11_withdraw_9 : decode cX11_withdraw 9 = .ok (.aload_n 0, 1) := by decide +kernel
theorem dX11_withdraw_10 : decode cX11_withdraw 10 = .ok (.iload_n 1, 1) := by decide +kernel
theorem dX11_withdraw_11 : decode cX11_withdraw 11 = .ok (.invokevirtual 156, 3) := by decide +kernel
theorem dX11_withdraw_14 : decode cX11_withdraw 14 = .ok (.ifCond .ne 7, 3) := by decide +kernel
theorem dX11_withdraw_17 : decode cX11_withdraw 17 = .ok (.iconst 1, 1) := by decide +kernel
theorem dX11_withdraw_18 : decode cX11_withdraw 18 = .ok (.goto 4, 3) := by decide +kernel
theorem dX11_withdraw_21 : decode cX11_withdraw 21 = .ok (.iconst 0, 1) := by decide +kernel
theorem dX11_withdraw_22 : decode cX11_withdraw 22 = .ok (.iconst 2, 1) := by decide +kernel
theorem dX11_withdraw_23 : decode cX11_withdraw 23 = .ok (.invokevirtual 166, 3) := by decide +kernel
theorem dX11_withdraw_26 : decode cX11_withdraw 26 = .ok (.ifCond .eq 5, 3) := by decide +kernel
theorem dX11_withdraw_29 : decode cX11_withdraw 29 = .ok (.iconst 0, 1) := by decide +kernel
theorem dX11_withdraw_30 : decode cX11_withdraw 30 = .ok (.ireturn, 1) := by decide +kernel
theorem dX11_withdraw_31 : decode cX11_withdraw 31 = .ok (.aload_n 0, 1) := by decide +kernel
theorem dX11_withdraw_32 : decode cX11_withdraw 32 = .ok (.iconst 0, 1) := by decide +kernel
theorem dX11_withdraw_33 : decode cX11_withdraw 33 = .ok (.invokevirtual 253, 3) := by decide +kernel
theorem dX11_withdraw_36 : decode cX11_withdraw 36 = .ok (.aload_n 0, 1) := by decide +kernel
theorem dX11_withdraw_37 : decode cX11_withdraw 37 = .ok (.iload_n 1, 1) := by decide +kernel
theorem dX11_withdraw_38 : decode cX11_withdraw 38 = .ok (.invokevirtual 278, 3) := by decide +kernel
theorem dX11_withdraw_41 : decode cX11_withdraw 41 = .ok (.ireturn, 1) := by decide +kernel
theorem dX11_fund_0 : decode cX11_fund 0 = .ok (.aload_n 0, 1) := by decide +kernel
theorem dX11_fund_1 : decode cX11_fund 1 = .ok (.iload_n 1, 1) := by decide +kernel
theorem dX11_fund_2 : decode cX11_fund 2 = .ok (.invokevirtual 305, 3) := by decide +kernel
theorem dX11_fund_5 : decode cX11_fund 5 = .ok (.ifCond .ne 27, 3) := by decide +kernel
theorem dX11_fund_8 : decode cX11_fund 8 = .ok (.aload_n 0, 1) := by decide +kernel
theorem dX11_fund_9 : decode cX11_fund 9 = .ok (.iload_n 2, 1) := by decide +kernel
theorem dX11_fund_10 : decode cX11_fund 10 = .ok (.iconst 1, 1) := by decide +kernel
theorem dX11_fund_11 : decode cX11_fund 11 = .ok (.sipush 9999, 3) := by decide +kernel
theorem dX11_fund_14 : decode cX11_fund 14 = .ok (.invokestatic 173, 3) := by decide +kernel
theorem dX11_fund_17 : decode cX11_fund 17 = .ok (.ifCond .ne 7, 3) := by decide +kernel
theorem dX11_fund_20 : decode cX11_fund 20 = .ok (.iconst 1, 1) := by decide +kernel
theorem dX11_fund_21 : decode cX11_fund 21 = .ok (.goto 4, 3) := by decide +kernel
theorem dX11_fund_24 : decode cX11_fund 24 = .ok (.iconst 0, 1) := by decide +kernel
theorem dX11_fund_25 : decode cX11_fund 25 = .ok (.iconst 2, 1) := by decide +kernel
theorem dX11_fund_26 : decode cX11_fund 26 = .ok (.invokevirtual 166, 3) := by decide +kernel
theorem dX11_fund_29 : decode cX11_fund 29 = .ok (.ifCond .eq 5, 3) := by decide +kernel
theorem dX11_fund_32 : decode cX11_fund 32 = .ok (.iconst 0, 1) := by decide +kernel
theorem dX11_fund_33 : decode cX11_fund 33 = .ok (.ireturn, 1) := by decide +kernel
theorem dX11_fund_34 : decode cX11_fund 34 = .ok (.aload_n 0, 1) := by decide +kernel
theorem dX11_fund_35 : decode cX11_fund 35 = .ok (.iconst 0, 1) := by decide +kernel
theorem dX11_fund_36 : decode cX11_fund 36 = .ok (.invokevirtual 253, 3) := by decide +kernel
theorem dX11_fund_39 : decode cX11_fund 39 = .ok (.aload_n 0, 1) := by decide +kernel
theorem dX11_fund_40 : decode cX11_fund 40 = .ok (.iload_n 1, 1) := by decide +kernel
theorem dX11_fund_41 : decode cX11_fund 41 = .ok (.iload_n 2, 1) := by decide +kernel
theorem dX11_fund_42 : decode cX11_fund 42 = .ok (.invokevirtual 293, 3) := by decide +kernel
theorem dX11_fund_45 : decode cX11_fund 45 = .ok (.ireturn, 1) := by decide +kernel
theorem dX11_setReserve_0 : decode cX11_setReserve 0 = .ok (.aload_n 0, 1) := by decide +kernel
theorem dX11_setReserve_1 : decode cX11_setReserve 1 = .ok (.iload_n 1, 1) := by decide +kernel
theorem dX11_setReserve_2 : decode cX11_setReserve 2 = .ok (.invokevirtual 308, 3) := by decide +kernel
theorem dX11_setReserve_5 : decode cX11_setReserve 5 = .ok (.ifCond .ne 27, 3) := by decide +kernel
theorem dX11_setReserve_8 : decode cX11_setReserve 8 = .ok (.aload_n 0, 1) := by decide +kernel
theorem dX11_setReserve_9 : decode cX11_setReserve 9 = .ok (.iload_n 2, 1) := by decide +kernel
theorem dX11_setReserve_10 : decode cX11_setReserve 10 = .ok (.iconst 1, 1) := by decide +kernel
theorem dX11_setReserve_11 : decode cX11_setReserve 11 = .ok (.sipush 999, 3) := by decide +kernel
theorem dX11_setReserve_14 : decode cX11_setReserve 14 = .ok (.invokestatic 173, 3) := by decide +kernel
theorem dX11_setReserve_17 : decode cX11_setReserve 17 = .ok (.ifCond .ne 7, 3) := by decide +kernel
theorem dX11_setReserve_20 : decode cX11_setReserve 20 = .ok (.iconst 1, 1) := by decide +kernel
theorem dX11_setReserve_21 : decode cX11_setReserve 21 = .ok (.goto 4, 3) := by decide +kernel
theorem dX11_setReserve_24 : decode cX11_setReserve 24 = .ok (.iconst 0, 1) := by decide +kernel
theorem dX11_setReserve_25 : decode cX11_setReserve 25 = .ok (.iconst 2, 1) := by decide +kernel
theorem dX11_setReserve_26 : decode cX11_setReserve 26 = .ok (.invokevirtual 166, 3) := by decide +kernel
theorem dX11_setReserve_29 : decode cX11_setReserve 29 = .ok (.ifCond .eq 5, 3) := by decide +kernel
theorem dX11_setReserve_32 : decode cX11_setReserve 32 = .ok (.iconst 0, 1) := by decide +kernel
theorem dX11_setReserve_33 : decode cX11_setReserve 33 = .ok (.ireturn, 1) := by decide +kernel
theorem dX11_setReserve_34 : decode cX11_setReserve 34 = .ok (.aload_n 0, 1) := by decide +kernel
theorem dX11_setReserve_35 : decode cX11_setReserve 35 = .ok (.aload_n 0, 1) := by decide +kernel
theorem dX11_setReserve_36 : decode cX11_setReserve 36 = .ok (.iload_n 1, 1) := by decide +kernel
theorem dX11_setReserve_37 : decode cX11_setReserve 37 = .ok (.invokevirtual 156, 3) := by decide +kernel
theorem dX11_setReserve_40 : decode cX11_setReserve 40 = .ok (.ifCond .ne 7, 3) := by decide +kernel
theorem dX11_setReserve_43 : decode cX11_setReserve 43 = .ok (.iconst 1, 1) := by decide +kernel
theorem dX11_setReserve_44 : decode cX11_setReserve 44 = .ok (.goto 4, 3) := by decide +kernel
theorem dX11_setReserve_47 : decode cX11_setReserve 47 = .ok (.iconst 0, 1) := by decide +kernel
theorem dX11_setReserve_48 : decode cX11_setReserve 48 = .ok (.iconst 3, 1) := by decide +kernel
theorem dX11_setReserve_49 : decode cX11_setReserve 49 = .ok (.invokevirtual 166, 3) := by decide +kernel
theorem dX11_setReserve_52 : decode cX11_setReserve 52 = .ok (.ifCond .eq 5, 3) := by decide +kernel
theorem dX11_setReserve_55 : decode cX11_setReserve 55 = .ok (.iconst 0, 1) := by decide +kernel
theorem dX11_setReserve_56 : decode cX11_setReserve 56 = .ok (.ireturn, 1) := by decide +kernel
theorem dX11_setReserve_57 : decode cX11_setReserve 57 = .ok (.aload_n 0, 1) := by decide +kernel
theorem dX11_setReserve_58 : decode cX11_setReserve 58 = .ok (.iconst 0, 1) := by decide +kernel
theorem dX11_setReserve_59 : decode cX11_setReserve 59 = .ok (.invokevirtual 253, 3) := by decide +kernel
theorem dX11_setReserve_62 : decode cX11_setReserve 62 = .ok (.aload_n 0, 1) := by decide +kernel
theorem dX11_setReserve_63 : decode cX11_setReserve 63 = .ok (.iload_n 1, 1) := by decide +kernel
theorem dX11_setReserve_64 : decode cX11_setReserve 64 = .ok (.bipush 10, 2) := by decide +kernel
theorem dX11_setReserve_66 : decode cX11_setReserve 66 = .ok (.invokevirtual 66, 3) := by decide +kernel
theorem dX11_setReserve_69 : decode cX11_setReserve 69 = .ok (.istore_n 3, 1) := by decide +kernel
theorem dX11_setReserve_70 : decode cX11_setReserve 70 = .ok (.aload_n 0, 1) := by decide +kernel
theorem dX11_setReserve_71 : decode cX11_setReserve 71 = .ok (.iload_n 1, 1) := by decide +kernel
theorem dX11_setReserve_72 : decode cX11_setReserve 72 = .ok (.bipush 10, 2) := by decide +kernel
theorem dX11_setReserve_74 : decode cX11_setReserve 74 = .ok (.iload_n 2, 1) := by decide +kernel
theorem dX11_setReserve_75 : decode cX11_setReserve 75 = .ok (.invokevirtual 73, 3) := by decide +kernel
theorem dX11_setReserve_78 : decode cX11_setReserve 78 = .ok (.iload_n 3, 1) := by decide +kernel
theorem dX11_setReserve_79 : decode cX11_setReserve 79 = .ok (.ireturn, 1) := by decide +kernel
theorem dX11_setStep_0 : decode cX11_setStep 0 = .ok (.aload_n 0, 1) := by decide +kernel
theorem dX11_setStep_1 : decode cX11_setStep 1 = .ok (.iconst 0, 1) := by decide +kernel
theorem dX11_setStep_2 : decode cX11_setStep 2 = .ok (.putfield 54, 3) := by decide +kernel
theorem dX11_setStep_5 : decode cX11_setStep 5 = .ok (.aload_n 0, 1) := by decide +kernel
theorem dX11_setStep_6 : decode cX11_setStep 6 = .ok (.iload_n 1, 1) := by decide +kernel
theorem dX11_setStep_7 : decode cX11_setStep 7 = .ok (.iconst 1, 1) := by decide +kernel
theorem dX11_setStep_8 : decode cX11_setStep 8 = .ok (.bipush 50, 2) := by decide +kernel
theorem dX11_setStep_10 : decode cX11_setStep 10 = .ok (.invokestatic 173, 3) := by decide +kernel
theorem dX11_setStep_13 : decode cX11_setStep 13 = .ok (.ifCond .ne 7, 3) := by decide +kernel
theorem dX11_setStep_16 : decode cX11_setStep 16 = .ok (.iconst 1, 1) := by decide +kernel
theorem dX11_setStep_17 : decode cX11_setStep 17 = .ok (.goto 4, 3) := by decide +kernel
theorem dX11_setStep_20 : decode cX11_setStep 20 = .ok (.iconst 0, 1) := by decide +kernel
theorem dX11_setStep_21 : decode cX11_setStep 21 = .ok (.iconst 1, 1) := by decide +kernel
theorem dX11_setStep_22 : decode cX11_setStep 22 = .ok (.invokevirtual 166, 3) := by decide +kernel
theorem dX11_setStep_25 : decode cX11_setStep 25 = .ok (.ifCond .eq 5, 3) := by decide +kernel
theorem dX11_setStep_28 : decode cX11_setStep 28 = .ok (.iconst 0, 1) := by decide +kernel
theorem dX11_setStep_29 : decode cX11_setStep 29 = .ok (.ireturn, 1) := by decide +kernel
theorem dX11_setStep_30 : decode cX11_setStep 30 = .ok (.aload_n 0, 1) := by decide +kernel
theorem dX11_setStep_31 : decode cX11_setStep 31 = .ok (.iconst 0, 1) := by decide +kernel
theorem dX11_setStep_32 : decode cX11_setStep 32 = .ok (.invokevirtual 253, 3) := by decide +kernel
theorem dX11_setStep_35 : decode cX11_setStep 35 = .ok (.aload_n 0, 1) := by decide +kernel
theorem dX11_setStep_36 : decode cX11_setStep 36 = .ok (.getfield 7, 3) := by decide +kernel
theorem dX11_setStep_39 : decode cX11_setStep 39 = .ok (.iconst 3, 1) := by decide +kernel
theorem dX11_setStep_40 : decode cX11_setStep 40 = .ok (.iaload, 1) := by decide +kernel
theorem dX11_setStep_41 : decode cX11_setStep 41 = .ok (.istore_n 2, 1) := by decide +kernel
theorem dX11_setStep_42 : decode cX11_setStep 42 = .ok (.aload_n 0, 1) := by decide +kernel
theorem dX11_setStep_43 : decode cX11_setStep 43 = .ok (.getfield 7, 3) := by decide +kernel
theorem dX11_setStep_46 : decode cX11_setStep 46 = .ok (.iconst 3, 1) := by decide +kernel
theorem dX11_setStep_47 : decode cX11_setStep 47 = .ok (.iload_n 1, 1) := by decide +kernel
theorem dX11_setStep_48 : decode cX11_setStep 48 = .ok (.iastore, 1) := by decide +kernel
theorem dX11_setStep_49 : decode cX11_setStep 49 = .ok (.iload_n 2, 1) := by decide +kernel
theorem dX11_setStep_50 : decode cX11_setStep 50 = .ok (.ireturn, 1) := by decide +kernel
theorem dX11_setTaste_0 : decode cX11_setTaste 0 = .ok (.aload_n 0, 1) := by decide +kernel
theorem dX11_setTaste_1 : decode cX11_setTaste 1 = .ok (.iload_n 1, 1) := by decide +kernel
theorem dX11_setTaste_2 : decode cX11_setTaste 2 = .ok (.invokevirtual 305, 3) := by decide +kernel
theorem dX11_setTaste_5 : decode cX11_setTaste 5 = .ok (.ifCond .ne 36, 3) := by decide +kernel
theorem dX11_setTaste_8 : decode cX11_setTaste 8 = .ok (.aload_n 0, 1) := by decide +kernel
theorem dX11_setTaste_9 : decode cX11_setTaste 9 = .ok (.iload_n 2, 1) := by decide +kernel
theorem dX11_setTaste_10 : decode cX11_setTaste 10 = .ok (.iconst 0, 1) := by decide +kernel
theorem dX11_setTaste_11 : decode cX11_setTaste 11 = .ok (.iconst 4, 1) := by decide +kernel
theorem dX11_setTaste_12 : decode cX11_setTaste 12 = .ok (.invokestatic 173, 3) := by decide +kernel
theorem dX11_setTaste_15 : decode cX11_setTaste 15 = .ok (.ifCond .eq 14, 3) := by decide +kernel
theorem dX11_setTaste_18 : decode cX11_setTaste 18 = .ok (.iload_n 3, 1) := by decide +kernel
theorem dX11_setTaste_19 : decode cX11_setTaste 19 = .ok (.iconst 1, 1) := by decide +kernel
theorem dX11_setTaste_20 : decode cX11_setTaste 20 = .ok (.sipush 999, 3) := by decide +kernel
theorem dX11_setTaste_23 : decode cX11_setTaste 23 = .ok (.invokestatic 173, 3) := by decide +kernel
theorem dX11_setTaste_26 : decode cX11_setTaste 26 = .ok (.ifCond .ne 7, 3) := by decide +kernel
theorem dX11_setTaste_29 : decode cX11_setTaste 29 = .ok (.iconst 1, 1) := by decide +kernel
theorem dX11_setTaste_30 : decode cX11_setTaste 30 = .ok (.goto 4, 3) := by decide +kernel
theorem dX11_setTaste_33 : decode cX11_setTaste 33 = .ok (.iconst 0, 1) := by decide +kernel
theorem dX11_setTaste_34 : decode cX11_setTaste 34 = .ok (.iconst 2, 1) := by decide +kernel
theorem dX11_setTaste_35 : decode cX11_setTaste 35 = .ok (.invokevirtual 166, 3) := by decide +kernel
theorem dX11_setTaste_38 : decode cX11_setTaste 38 = .ok (.ifCond .eq 5, 3) := by decide +kernel
theorem dX11_setTaste_41 : decode cX11_setTaste 41 = .ok (.iconst 0, 1) := by decide +kernel
theorem dX11_setTaste_42 : decode cX11_setTaste 42 = .ok (.ireturn, 1) := by decide +kernel
theorem dX11_setTaste_43 : decode cX11_setTaste 43 = .ok (.aload_n 0, 1) := by decide +kernel
theorem dX11_setTaste_44 : decode cX11_setTaste 44 = .ok (.iconst 0, 1) := by decide +kernel
theorem dX11_setTaste_45 : decode cX11_setTaste 45 = .ok (.invokevirtual 253, 3) := by decide +kernel
theorem dX11_setTaste_48 : decode cX11_setTaste 48 = .ok (.aload_n 0, 1) := by decide +kernel
theorem dX11_setTaste_49 : decode cX11_setTaste 49 = .ok (.iload_n 1, 1) := by decide +kernel
theorem dX11_setTaste_50 : decode cX11_setTaste 50 = .ok (.iconst 1, 1) := by decide +kernel
theorem dX11_setTaste_51 : decode cX11_setTaste 51 = .ok (.invokevirtual 86, 3) := by decide +kernel
theorem dX11_setTaste_54 : decode cX11_setTaste 54 = .ok (.istore 4, 2) := by decide +kernel
theorem dX11_setTaste_56 : decode cX11_setTaste 56 = .ok (.aload_n 0, 1) := by decide +kernel
theorem dX11_setTaste_57 : decode cX11_setTaste 57 = .ok (.iload_n 1, 1) := by decide +kernel
theorem dX11_setTaste_58 : decode cX11_setTaste 58 = .ok (.iconst 1, 1) := by decide +kernel
theorem dX11_setTaste_59 : decode cX11_setTaste 59 = .ok (.iload_n 2, 1) := by decide +kernel
theorem dX11_setTaste_60 : decode cX11_setTaste 60 = .ok (.invokevirtual 70, 3) := by decide +kernel
theorem dX11_setTaste_63 : decode cX11_setTaste 63 = .ok (.aload_n 0, 1) := by decide +kernel
theorem dX11_setTaste_64 : decode cX11_setTaste 64 = .ok (.iload_n 1, 1) := by decide +kernel
theorem dX11_setTaste_65 : decode cX11_setTaste 65 = .ok (.iconst 2, 1) := by decide +kernel
theorem dX11_setTaste_66 : decode cX11_setTaste 66 = .ok (.iload_n 3, 1) := by decide +kernel
theorem dX11_setTaste_67 : decode cX11_setTaste 67 = .ok (.invokevirtual 70, 3) := by decide +kernel
theorem dX11_setTaste_70 : decode cX11_setTaste 70 = .ok (.iload 4, 2) := by decide +kernel
theorem dX11_setTaste_72 : decode cX11_setTaste 72 = .ok (.ireturn, 1) := by decide +kernel
theorem dX11_undo_0 : decode cX11_undo 0 = .ok (.aload_n 0, 1) := by decide +kernel
theorem dX11_undo_1 : decode cX11_undo 1 = .ok (.iconst 0, 1) := by decide +kernel
theorem dX11_undo_2 : decode cX11_undo 2 = .ok (.putfield 54, 3) := by decide +kernel
theorem dX11_undo_5 : decode cX11_undo 5 = .ok (.aload_n 0, 1) := by decide +kernel
theorem dX11_undo_6 : decode cX11_undo 6 = .ok (.aload_n 0, 1) := by decide +kernel
theorem dX11_undo_7 : decode cX11_undo 7 = .ok (.getfield 57, 3) := by decide +kernel
theorem dX11_undo_10 : decode cX11_undo 10 = .ok (.ifCond .ne 7, 3) := by decide +kernel
theorem dX11_undo_13 : decode cX11_undo 13 = .ok (.iconst 1, 1) := by decide +kernel
theorem dX11_undo_14 : decode cX11_undo 14 = .ok (.goto 4, 3) := by decide +kernel
theorem dX11_undo_17 : decode cX11_undo 17 = .ok (.iconst 0, 1) := by decide +kernel
theorem dX11_undo_18 : decode cX11_undo 18 = .ok (.iconst 1, 1) := by decide +kernel
theorem dX11_undo_19 : decode cX11_undo 19 = .ok (.invokevirtual 166, 3) := by decide +kernel
theorem dX11_undo_22 : decode cX11_undo 22 = .ok (.ifCond .eq 5, 3) := by decide +kernel
theorem dX11_undo_25 : decode cX11_undo 25 = .ok (.iconst 0, 1) := by decide +kernel
theorem dX11_undo_26 : decode cX11_undo 26 = .ok (.ireturn, 1) := by decide +kernel
theorem dX11_undo_27 : decode cX11_undo 27 = .ok (.aload_n 0, 1) := by decide +kernel
theorem dX11_undo_28 : decode cX11_undo 28 = .ok (.dup, 1) := by decide +kernel
theorem dX11_undo_29 : decode cX11_undo 29 = .ok (.getfield 57, 3) := by decide +kernel
theorem dX11_undo_32 : decode cX11_undo 32 = .ok (.iconst 1, 1) := by decide +kernel
theorem dX11_undo_33 : decode cX11_undo 33 = .ok (.isub, 1) := by decide +kernel
theorem dX11_undo_34 : decode cX11_undo 34 = .ok (.putfield 57, 3) := by decide +kernel
theorem dX11_undo_37 : decode cX11_undo 37 = .ok (.aload_n 0, 1) := by decide +kernel
theorem dX11_undo_38 : decode cX11_undo 38 = .ok (.iconst 1, 1) := by decide +kernel
theorem dX11_undo_39 : decode cX11_undo 39 = .ok (.aload_n 0, 1) := by decide +kernel
theorem dX11_undo_40 : decode cX11_undo 40 = .ok (.getfield 60, 3) := by decide +kernel
theorem dX11_undo_43 : decode cX11_undo 43 = .ok (.aload_n 0, 1) := by decide +kernel
theorem dX11_undo_44 : decode cX11_undo 44 = .ok (.getfield 57, 3) := by decide +kernel
theorem dX11_undo_47 : decode cX11_undo 47 = .ok (.iadd, 1) := by decide +kernel
theorem dX11_undo_48 : decode cX11_undo 48 = .ok (.bipush 8, 2) := by decide +kernel
theorem dX11_undo_50 : decode cX11_undo 50 = .ok (.irem, 1) := by decide +kernel
theorem dX11_undo_51 : decode cX11_undo 51 = .ok (.iadd, 1) := by decide +kernel
theorem dX11_undo_52 : decode cX11_undo 52 = .ok (.iconst 0, 1) := by decide +kernel
theorem dX11_undo_53 : decode cX11_undo 53 = .ok (.invokevirtual 63, 3) := by decide +kernel
theorem dX11_undo_56 : decode cX11_undo 56 = .ok (.aload_n 0, 1) := by decide +kernel
theorem dX11_undo_57 : decode cX11_undo 57 = .ok (.getfield 57, 3) := by decide +kernel
theorem dX11_undo_60 : decode cX11_undo 60 = .ok (.ireturn, 1) := by decide +kernel
theorem dX11_saveSnapshot_0 : decode cX11_saveSnapshot 0 = .ok (.aload_n 0, 1) := by decide +kernel
theorem dX11_saveSnapshot_1 : decode cX11_saveSnapshot 1 = .ok (.iconst 0, 1) := by decide +kernel
theorem dX11_saveSnapshot_2 : decode cX11_saveSnapshot 2 = .ok (.putfield 54, 3) := by decide +kernel
theorem dX11_saveSnapshot_5 : decode cX11_saveSnapshot 5 = .ok (.aload_n 0, 1) := by decide +kernel
theorem dX11_saveSnapshot_6 : decode cX11_saveSnapshot 6 = .ok (.iload_n 1, 1) := by decide +kernel
theorem dX11_saveSnapshot_7 : decode cX11_saveSnapshot 7 = .ok (.iconst 0, 1) := by decide +kernel
theorem dX11_saveSnapshot_8 : decode cX11_saveSnapshot 8 = .ok (.iconst 1, 1) := by decide +kernel
theorem dX11_saveSnapshot_9 : decode cX11_saveSnapshot 9 = .ok (.invokestatic 173, 3) := by decide +kernel
theorem dX11_saveSnapshot_12 : decode cX11_saveSnapshot 12 = .ok (.ifCond .ne 7, 3) := by decide +kernel
theorem dX11_saveSnapshot_15 : decode cX11_saveSnapshot 15 = .ok (.iconst 1, 1) := by decide +kernel
theorem dX11_saveSnapshot_16 : decode cX11_saveSnapshot 16 = .ok (.goto 4, 3) := by decide +kernel
theorem dX11_saveSnapshot_19 : decode cX11_saveSnapshot 19 = .ok (.iconst 0, 1) := by decide +kernel
theorem dX11_saveSnapshot_20 : decode cX11_saveSnapshot 20 = .ok (.iconst 1, 1) := by decide +kernel
theorem dX11_saveSnapshot_21 : decode cX11_saveSnapshot 21 = .ok (.invokevirtual 166, 3) := by decide +kernel
theorem dX11_saveSnapshot_24 : decode cX11_saveSnapshot 24 = .ok (.ifCond .eq 4, 3) := by decide +kernel
theorem dX11_saveSnapshot_27 : decode cX11_saveSnapshot 27 = .ok (.return_, 1) := by decide +kernel
theorem dX11_saveSnapshot_28 : decode cX11_saveSnapshot 28 = .ok (.aload_n 0, 1) := by decide +kernel
theorem dX11_saveSnapshot_29 : decode cX11_saveSnapshot 29 = .ok (.iconst 0, 1) := by decide +kernel
theorem dX11_saveSnapshot_30 : decode cX11_saveSnapshot 30 = .ok (.bipush 9, 2) := by decide +kernel
theorem dX11_saveSnapshot_32 : decode cX11_saveSnapshot 32 = .ok (.iload_n 1, 1) := by decide +kernel
theorem dX11_saveSnapshot_33 : decode cX11_saveSnapshot 33 = .ok (.iadd, 1) := by decide +kernel
theorem dX11_saveSnapshot_34 : decode cX11_saveSnapshot 34 = .ok (.invokevirtual 63, 3) := by decide +kernel
theorem dX11_saveSnapshot_37 : decode cX11_saveSnapshot 37 = .ok (.aload_n 0, 1) := by decide +kernel
theorem dX11_saveSnapshot_38 : decode cX11_saveSnapshot 38 = .ok (.getfield 13, 3) := by decide +kernel
theorem dX11_saveSnapshot_41 : decode cX11_saveSnapshot 41 = .ok (.iload_n 1, 1) := by decide +kernel
theorem dX11_saveSnapshot_42 : decode cX11_saveSnapshot 42 = .ok (.iconst 1, 1) := by decide +kernel
theorem dX11_saveSnapshot_43 : decode cX11_saveSnapshot 43 = .ok (.bastore, 1) := by decide +kernel
theorem dX11_saveSnapshot_44 : decode cX11_saveSnapshot 44 = .ok (.return_, 1) := by decide +kernel
theorem dX11_restoreSnapshot_0 : decode cX11_restoreSnapshot 0 = .ok (.aload_n 0, 1) := by decide +kernel
theorem dX11_restoreSnapshot_1 : decode cX11_restoreSnapshot 1 = .ok (.iconst 0, 1) := by decide +kernel
theorem dX11_restoreSnapshot_2 : decode cX11_restoreSnapshot 2 = .ok (.putfield 54, 3) := by decide +kernel
theorem dX11_restoreSnapshot_5 : decode cX11_restoreSnapshot 5 = .ok (.aload_n 0, 1) := by decide +kernel
theorem dX11_restoreSnapshot_6 : decode cX11_restoreSnapshot 6 = .ok (.iload_n 1, 1) := by decide +kernel
theorem dX11_restoreSnapshot_7 : decode cX11_restoreSnapshot 7 = .ok (.iconst 0, 1) := by decide +kernel
theorem dX11_restoreSnapshot_8 : decode cX11_restoreSnapshot 8 = .ok (.iconst 1, 1) := by decide +kernel
theorem dX11_restoreSnapshot_9 : decode cX11_restoreSnapshot 9 = .ok (.invokestatic 173, 3) := by decide +kernel
theorem dX11_restoreSnapshot_12 : decode cX11_restoreSnapshot 12 = .ok (.ifCond .ne 7, 3) := by decide +kernel
theorem dX11_restoreSnapshot_15 : decode cX11_restoreSnapshot 15 = .ok (.iconst 1, 1) := by decide +kernel
theorem dX11_restoreSnapshot_16 : decode cX11_restoreSnapshot 16 = .ok (.goto 4, 3) := by decide +kernel
theorem dX11_restoreSnapshot_19 : decode cX11_restoreSnapshot 19 = .ok (.iconst 0, 1) := by decide +kernel
theorem dX11_restoreSnapshot_20 : decode cX11_restoreSnapshot 20 = .ok (.iconst 1, 1) := by decide +kernel
theorem dX11_restoreSnapshot_21 : decode cX11_restoreSnapshot 21 = .ok (.invokevirtual 166, 3) := by decide +kernel
theorem dX11_restoreSnapshot_24 : decode cX11_restoreSnapshot 24 = .ok (.ifCond .eq 5, 3) := by decide +kernel
theorem dX11_restoreSnapshot_27 : decode cX11_restoreSnapshot 27 = .ok (.iconst 0, 1) := by decide +kernel
theorem dX11_restoreSnapshot_28 : decode cX11_restoreSnapshot 28 = .ok (.ireturn, 1) := by decide +kernel
theorem dX11_restoreSnapshot_29 : decode cX11_restoreSnapshot 29 = .ok (.aload_n 0, 1) := by decide +kernel
theorem dX11_restoreSnapshot_30 : decode cX11_restoreSnapshot 30 = .ok (.aload_n 0, 1) := by decide +kernel
theorem dX11_restoreSnapshot_31 : decode cX11_restoreSnapshot 31 = .ok (.getfield 13, 3) := by decide +kernel
theorem dX11_restoreSnapshot_34 : decode cX11_restoreSnapshot 34 = .ok (.iload_n 1, 1) := by decide +kernel
theorem dX11_restoreSnapshot_35 : decode cX11_restoreSnapshot 35 = .ok (.baload, 1) := by decide +kernel
theorem dX11_restoreSnapshot_36 : decode cX11_restoreSnapshot 36 = .ok (.ifCond .ne 7, 3) := by decide +kernel
theorem dX11_restoreSnapshot_39 : decode cX11_restoreSnapshot 39 = .ok (.iconst 1, 1) := by decide +kernel
theorem dX11_restoreSnapshot_40 : decode cX11_restoreSnapshot 40 = .ok (.goto 4, 3) := by decide +kernel
theorem dX11_restoreSnapshot_43 : decode cX11_restoreSnapshot 43 = .ok (.iconst 0, 1) := by decide +kernel
theorem dX11_restoreSnapshot_44 : decode cX11_restoreSnapshot 44 = .ok (.iconst 2, 1) := by decide +kernel
theorem dX11_restoreSnapshot_45 : decode cX11_restoreSnapshot 45 = .ok (.invokevirtual 166, 3) := by decide +kernel
theorem dX11_restoreSnapshot_48 : decode cX11_restoreSnapshot 48 = .ok (.ifCond .eq 5, 3) := by decide +kernel
theorem dX11_restoreSnapshot_51 : decode cX11_restoreSnapshot 51 = .ok (.iconst 0, 1) := by decide +kernel
theorem dX11_restoreSnapshot_52 : decode cX11_restoreSnapshot 52 = .ok (.ireturn, 1) := by decide +kernel
theorem dX11_restoreSnapshot_53 : decode cX11_restoreSnapshot 53 = .ok (.aload_n 0, 1) := by decide +kernel
theorem dX11_restoreSnapshot_54 : decode cX11_restoreSnapshot 54 = .ok (.iconst 0, 1) := by decide +kernel
theorem dX11_restoreSnapshot_55 : decode cX11_restoreSnapshot 55 = .ok (.invokevirtual 253, 3) := by decide +kernel
theorem dX11_restoreSnapshot_58 : decode cX11_restoreSnapshot 58 = .ok (.aload_n 0, 1) := by decide +kernel
theorem dX11_restoreSnapshot_59 : decode cX11_restoreSnapshot 59 = .ok (.bipush 9, 2) := by decide +kernel
theorem dX11_restoreSnapshot_61 : decode cX11_restoreSnapshot 61 = .ok (.iload_n 1, 1) := by decide +kernel
theorem dX11_restoreSnapshot_62 : decode cX11_restoreSnapshot 62 = .ok (.iadd, 1) := by decide +kernel
theorem dX11_restoreSnapshot_63 : decode cX11_restoreSnapshot 63 = .ok (.iconst 0, 1) := by decide +kernel
theorem dX11_restoreSnapshot_64 : decode cX11_restoreSnapshot 64 = .ok (.invokevirtual 63, 3) := by decide +kernel
theorem dX11_restoreSnapshot_67 : decode cX11_restoreSnapshot 67 = .ok (.aload_n 0, 1) := by decide +kernel
theorem dX11_restoreSnapshot_68 : decode cX11_restoreSnapshot 68 = .ok (.getfield 7, 3) := by decide +kernel
theorem dX11_restoreSnapshot_71 : decode cX11_restoreSnapshot 71 = .ok (.iconst 5, 1) := by decide +kernel
theorem dX11_restoreSnapshot_72 : decode cX11_restoreSnapshot 72 = .ok (.iaload, 1) := by decide +kernel
theorem dX11_restoreSnapshot_73 : decode cX11_restoreSnapshot 73 = .ok (.ireturn, 1) := by decide +kernel
theorem dX11_minute_0 : decode cX11_minute 0 = .ok (.aload_n 0, 1) := by decide +kernel
theorem dX11_minute_1 : decode cX11_minute 1 = .ok (.iconst 0, 1) := by decide +kernel
theorem dX11_minute_2 : decode cX11_minute 2 = .ok (.putfield 54, 3) := by decide +kernel
theorem dX11_minute_5 : decode cX11_minute 5 = .ok (.aload_n 0, 1) := by decide +kernel
theorem dX11_minute_6 : decode cX11_minute 6 = .ok (.getfield 7, 3) := by decide +kernel
theorem dX11_minute_9 : decode cX11_minute 9 = .ok (.iconst 5, 1) := by decide +kernel
theorem dX11_minute_10 : decode cX11_minute 10 = .ok (.iaload, 1) := by decide +kernel
theorem dX11_minute_11 : decode cX11_minute 11 = .ok (.ireturn, 1) := by decide +kernel
theorem dX11_isOpen_0 : decode cX11_isOpen 0 = .ok (.aload_n 0, 1) := by decide +kernel
theorem dX11_isOpen_1 : decode cX11_isOpen 1 = .ok (.iconst 0, 1) := by decide +kernel
theorem dX11_isOpen_2 : decode cX11_isOpen 2 = .ok (.putfield 54, 3) := by decide +kernel
theorem dX11_isOpen_5 : decode cX11_isOpen 5 = .ok (.aload_n 0, 1) := by decide +kernel
theorem dX11_isOpen_6 : decode cX11_isOpen 6 = .ok (.invokevirtual 105, 3) := by decide +kernel
theorem dX11_isOpen_9 : decode cX11_isOpen 9 = .ok (.ireturn, 1) := by decide +kernel
theorem dX11_minutesToHorn_0 : decode cX11_minutesToHorn 0 = .ok (.aload_n 0, 1) := by decide +kernel
theorem dX11_minutesToHorn_1 : decode cX11_minutesToHorn 1 = .ok (.iconst 0, 1) := by decide +kernel
theorem dX11_minutesToHorn_2 : decode cX11_minutesToHorn 2 = .ok (.putfield 54, 3) := by decide +kernel
theorem dX11_minutesToHorn_5 : decode cX11_minutesToHorn 5 = .ok (.iconst 1, 1) := by decide +kernel
theorem dX11_minutesToHorn_6 : decode cX11_minutesToHorn 6 = .ok (.istore_n 1, 1) := by decide +kernel
theorem dX11_minutesToHorn_7 : decode cX11_minutesToHorn 7 = .ok (.iload_n 1, 1) := by decide +kernel
theorem dX11_minutesToHorn_8 : decode cX11_minutesToHorn 8 = .ok (.aload_n 0, 1) := by decide +kernel
theorem dX11_minutesToHorn_9 : decode cX11_minutesToHorn 9 = .ok (.getfield 7, 3) := by decide +kernel
theorem dX11_minutesToHorn_12 : decode cX11_minutesToHorn 12 = .ok (.iconst 0, 1) := by decide +kernel
theorem dX11_minutesToHorn_13 : decode cX11_minutesToHorn 13 = .ok (.iaload, 1) := by decide +kernel
theorem dX11_minutesToHorn_14 : decode cX11_minutesToHorn 14 = .ok (.if_icmp .gt 26, 3) := by decide +kernel
theorem dX11_minutesToHorn_17 : decode cX11_minutesToHorn 17 = .ok (.aload_n 0, 1) := by decide +kernel
theorem dX11_minutesToHorn_18 : decode cX11_minutesToHorn 18 = .ok (.aload_n 0, 1) := by decide +kernel
theorem dX11_minutesToHorn_19 : decode cX11_minutesToHorn 19 = .ok (.getfield 7, 3) := by decide +kernel
theorem dX11_minutesToHorn_22 : decode cX11_minutesToHorn 22 = .ok (.iconst 5, 1) := by decide +kernel
theorem dX11_minutesToHorn_23 : decode cX11_minutesToHorn 23 = .ok (.iaload, 1) := by decide +kernel
theorem dX11_minutesToHorn_24 : decode cX11_minutesToHorn 24 = .ok (.iload_n 1, 1) := by decide +kernel
theorem dX11_minutesToHorn_25 : decode cX11_minutesToHorn 25 = .ok (.iadd, 1) := by decide +kernel
theorem dX11_minutesToHorn_26 : decode cX11_minutesToHorn 26 = .ok (.invokevirtual 141, 3) := by decide +kernel
theorem dX11_minutesToHorn_29 : decode cX11_minutesToHorn 29 = .ok (.ifCond .eq 5, 3) := by decide +kernel
theorem dX11_minutesToHorn_32 : decode cX11_minutesToHorn 32 = .ok (.iload_n 1, 1) := by decide +kernel
theorem dX11_minutesToHorn_33 : decode cX11_minutesToHorn 33 = .ok (.ireturn, 1) := by decide +kernel
theorem dX11_minutesToHorn_34 : decode cX11_minutesToHorn 34 = .ok (.iinc 1 1, 3) := by decide +kernel
theorem dX11_minutesToHorn_37 : decode cX11_minutesToHorn 37 = .ok (.goto (-30), 3) := by decide +kernel
theorem dX11_minutesToHorn_40 : decode cX11_minutesToHorn 40 = .ok (.iconst (-1), 1) := by decide +kernel
theorem dX11_minutesToHorn_41 : decode cX11_minutesToHorn 41 = .ok (.ireturn, 1) := by decide +kernel
theorem dX11_step_0 : decode cX11_step 0 = .ok (.aload_n 0, 1) := by decide +kernel
theorem dX11_step_1 : decode cX11_step 1 = .ok (.iconst 0, 1) := by decide +kernel
theorem dX11_step_2 : decode cX11_step 2 = .ok (.putfield 54, 3) := by decide +kernel
theorem dX11_step_5 : decode cX11_step 5 = .ok (.aload_n 0, 1) := by decide +kernel
theorem dX11_step_6 : decode cX11_step 6 = .ok (.getfield 7, 3) := by decide +kernel
theorem dX11_step_9 : decode cX11_step 9 = .ok (.iconst 3, 1) := by decide +kernel
theorem dX11_step_10 : decode cX11_step 10 = .ok (.iaload, 1) := by decide +kernel
theorem dX11_step_11 : decode cX11_step 11 = .ok (.ireturn, 1) := by decide +kernel
theorem dX11_sellerCoins_0 : decode cX11_sellerCoins 0 = .ok (.aload_n 0, 1) := by decide +kernel
theorem dX11_sellerCoins_1 : decode cX11_sellerCoins 1 = .ok (.iconst 0, 1) := by decide +kernel
theorem dX11_sellerCoins_2 : decode cX11_sellerCoins 2 = .ok (.putfield 54, 3) := by decide +kernel
theorem dX11_sellerCoins_5 : decode cX11_sellerCoins 5 = .ok (.aload_n 0, 1) := by decide +kernel
theorem dX11_sellerCoins_6 : decode cX11_sellerCoins 6 = .ok (.getfield 7, 3) := by decide +kernel
theorem dX11_sellerCoins_9 : decode cX11_sellerCoins 9 = .ok (.bipush 13, 2) := by decide +kernel
theorem dX11_sellerCoins_11 : decode cX11_sellerCoins 11 = .ok (.iaload, 1) := by decide +kernel
theorem dX11_sellerCoins_12 : decode cX11_sellerCoins 12 = .ok (.ireturn, 1) := by decide +kernel
theorem dX11_houseCoins_0 : decode cX11_houseCoins 0 = .ok (.aload_n 0, 1) := by decide +kernel
theorem dX11_houseCoins_1 : decode cX11_houseCoins 1 = .ok (.iconst 0, 1) := by decide +kernel
theorem dX11_houseCoins_2 : decode cX11_houseCoins 2 = .ok (.putfield 54, 3) := by decide +kernel
theorem dX11_houseCoins_5 : decode cX11_houseCoins 5 = .ok (.aload_n 0, 1) := by decide +kernel
theorem dX11_houseCoins_6 : decode cX11_houseCoins 6 = .ok (.getfield 7, 3) := by decide +kernel
theorem dX11_houseCoins_9 : decode cX11_houseCoins 9 = .ok (.bipush 14, 2) := by decide +kernel
theorem dX11_houseCoins_11 : decode cX11_houseCoins 11 = .ok (.iaload, 1) := by decide +kernel
theorem dX11_houseCoins_12 : decode cX11_houseCoins 12 = .ok (.ireturn, 1) := by decide +kernel
theorem dX11_openBarrel_0 : decode cX11_openBarrel 0 = .ok (.aload_n 0, 1) := by decide +kernel
theorem dX11_openBarrel_1 : decode cX11_openBarrel 1 = .ok (.iconst 0, 1) := by decide +kernel
theorem dX11_openBarrel_2 : decode cX11_openBarrel 2 = .ok (.putfield 54, 3) := by decide +kernel
theorem dX11_openBarrel_5 : decode cX11_openBarrel 5 = .ok (.aload_n 0, 1) := by decide +kernel
theorem dX11_openBarrel_6 : decode cX11_openBarrel 6 = .ok (.getfield 7, 3) := by decide +kernel
theorem dX11_openBarrel_9 : decode cX11_openBarrel 9 = .ok (.bipush 8, 2) := by decide +kernel
theorem dX11_openBarrel_11 : decode cX11_openBarrel 11 = .ok (.iaload, 1) := by decide +kernel
theorem dX11_openBarrel_12 : decode cX11_openBarrel 12 = .ok (.ireturn, 1) := by decide +kernel
theorem dX11_bid_0 : decode cX11_bid 0 = .ok (.aload_n 0, 1) := by decide +kernel
theorem dX11_bid_1 : decode cX11_bid 1 = .ok (.iconst 0, 1) := by decide +kernel
theorem dX11_bid_2 : decode cX11_bid 2 = .ok (.putfield 54, 3) := by decide +kernel
theorem dX11_bid_5 : decode cX11_bid 5 = .ok (.aload_n 0, 1) := by decide +kernel
theorem dX11_bid_6 : decode cX11_bid 6 = .ok (.getfield 7, 3) := by decide +kernel
theorem dX11_bid_9 : decode cX11_bid 9 = .ok (.bipush 10, 2) := by decide +kernel
theorem dX11_bid_11 : decode cX11_bid 11 = .ok (.iaload, 1) := by decide +kernel
theorem dX11_bid_12 : decode cX11_bid 12 = .ok (.ifCond .ge 7, 3) := by decide +kernel
theorem dX11_bid_15 : decode cX11_bid 15 = .ok (.iconst (-1), 1) := by decide +kernel
theorem dX11_bid_16 : decode cX11_bid 16 = .ok (.goto 10, 3) := by decide +kernel
theorem dX11_bid_19 : decode cX11_bid 19 = .ok (.aload_n 0, 1) := by decide +kernel
theorem dX11_bid_20 : decode cX11_bid 20 = .ok (.getfield 7, 3) := by decide +kernel
theorem dX11_bid_23 : decode cX11_bid 23 = .ok (.bipush 9, 2) := by decide +kernel
theorem dX11_bid_25 : decode cX11_bid 25 = .ok (.iaload, 1) := by decide +kernel
theorem dX11_bid_26 : decode cX11_bid 26 = .ok (.ireturn, 1) := by decide +kernel
theorem dX11_leader_0 : decode cX11_leader 0 = .ok (.aload_n 0, 1) := by decide +kernel
theorem dX11_leader_1 : decode cX11_leader 1 = .ok (.iconst 0, 1) := by decide +kernel
theorem dX11_leader_2 : decode cX11_leader 2 = .ok (.putfield 54, 3) := by decide +kernel
theorem dX11_leader_5 : decode cX11_leader 5 = .ok (.aload_n 0, 1) := by decide +kernel
theorem dX11_leader_6 : decode cX11_leader 6 = .ok (.getfield 7, 3) := by decide +kernel
theorem dX11_leader_9 : decode cX11_leader 9 = .ok (.bipush 10, 2) := by decide +kernel
theorem dX11_leader_11 : decode cX11_leader 11 = .ok (.iaload, 1) := by decide +kernel
theorem dX11_leader_12 : decode cX11_leader 12 = .ok (.ireturn, 1) := by decide +kernel
theorem dX11_nextBid_0 : decode cX11_nextBid 0 = .ok (.aload_n 0, 1) := by decide +kernel
theorem dX11_nextBid_1 : decode cX11_nextBid 1 = .ok (.iconst 0, 1) := by decide +kernel
theorem dX11_nextBid_2 : decode cX11_nextBid 2 = .ok (.putfield 54, 3) := by decide +kernel
theorem dX11_nextBid_5 : decode cX11_nextBid 5 = .ok (.aload_n 0, 1) := by decide +kernel
theorem dX11_nextBid_6 : decode cX11_nextBid 6 = .ok (.getfield 7, 3) := by decide +kernel
theorem dX11_nextBid_9 : decode cX11_nextBid 9 = .ok (.bipush 8, 2) := by decide +kernel
theorem dX11_nextBid_11 : decode cX11_nextBid 11 = .ok (.iaload, 1) := by decide +kernel
theorem dX11_nextBid_12 : decode cX11_nextBid 12 = .ok (.ifCond .ge 7, 3) := by decide +kernel
theorem dX11_nextBid_15 : decode cX11_nextBid 15 = .ok (.iconst (-1), 1) := by decide +kernel
theorem dX11_nextBid_16 : decode cX11_nextBid 16 = .ok (.goto 7, 3) := by decide +kernel
theorem dX11_nextBid_19 : decode cX11_nextBid 19 = .ok (.aload_n 0, 1) := by decide +kernel
theorem dX11_nextBid_20 : decode cX11_nextBid 20 = .ok (.invokevirtual 109, 3) := by decide +kernel
theorem dX11_nextBid_23 : decode cX11_nextBid 23 = .ok (.ireturn, 1) := by decide +kernel
theorem dX11_quiet_0 : decode cX11_quiet 0 = .ok (.aload_n 0, 1) := by decide +kernel
theorem dX11_quiet_1 : decode cX11_quiet 1 = .ok (.iconst 0, 1) := by decide +kernel
theorem dX11_quiet_2 : decode cX11_quiet 2 = .ok (.putfield 54, 3) := by decide +kernel
theorem dX11_quiet_5 : decode cX11_quiet 5 = .ok (.aload_n 0, 1) := by decide +kernel
theorem dX11_quiet_6 : decode cX11_quiet 6 = .ok (.getfield 7, 3) := by decide +kernel
theorem dX11_quiet_9 : decode cX11_quiet 9 = .ok (.bipush 8, 2) := by decide +kernel
theorem dX11_quiet_11 : decode cX11_quiet 11 = .ok (.iaload, 1) := by decide +kernel
theorem dX11_quiet_12 : decode cX11_quiet 12 = .ok (.ifCond .ge 7, 3) := by decide +kernel
theorem dX11_quiet_15 : decode cX11_quiet 15 = .ok (.iconst (-1), 1) := by decide +kernel
theorem dX11_quiet_16 : decode cX11_quiet 16 = .ok (.goto 10, 3) := by decide +kernel
theorem dX11_quiet_19 : decode cX11_quiet 19 = .ok (.aload_n 0, 1) := by decide +kernel
theorem dX11_quiet_20 : decode cX11_quiet 20 = .ok (.getfield 7, 3) := by decide +kernel
theorem dX11_quiet_23 : decode cX11_quiet 23 = .ok (.bipush 11, 2) := by decide +kernel
theorem dX11_quiet_25 : decode cX11_quiet 25 = .ok (.iaload, 1) := by decide +kernel
theorem dX11_quiet_26 : decode cX11_quiet 26 = .ok (.ireturn, 1) := by decide +kernel
theorem dX11_queueLength_0 : decode cX11_queueLength 0 = .ok (.aload_n 0, 1) := by decide +kernel
theorem dX11_queueLength_1 : decode cX11_queueLength 1 = .ok (.iconst 0, 1) := by decide +kernel
theorem dX11_queueLength_2 : decode cX11_queueLength 2 = .ok (.putfield 54, 3) := by decide +kernel
theorem dX11_queueLength_5 : decode cX11_queueLength 5 = .ok (.aload_n 0, 1) := by decide +kernel
theorem dX11_queueLength_6 : decode cX11_queueLength 6 = .ok (.getfield 7, 3) := by decide +kernel
theorem dX11_queueLength_9 : decode cX11_queueLength 9 = .ok (.bipush 12, 2) := by decide +kernel
theorem dX11_queueLength_11 : decode cX11_queueLength 11 = .ok (.iaload, 1) := by decide +kernel
theorem dX11_queueLength_12 : decode cX11_queueLength 12 = .ok (.ireturn, 1) := by decide +kernel
theorem dX11_queuedBarrel_0 : decode cX11_queuedBarrel 0 = .ok (.aload_n 0, 1) := by decide +kernel
theorem dX11_queuedBarrel_1 : decode cX11_queuedBarrel 1 = .ok (.iconst 0, 1) := by decide +kernel
theorem dX11_queuedBarrel_2 : decode cX11_queuedBarrel 2 = .ok (.putfield 54, 3) := by decide +kernel
theorem dX11_queuedBarrel_5 : decode cX11_queuedBarrel 5 = .ok (.iload_n 1, 1) := by decide +kernel
theorem dX11_queuedBarrel_6 : decode cX11_queuedBarrel 6 = .ok (.ifCond .lt 26, 3) := by decide +kernel
theorem dX11_queuedBarrel_9 : decode cX11_queuedBarrel 9 = .ok (.iload_n 1, 1) := by decide +kernel
theorem dX11_queuedBarrel_10 : decode cX11_queuedBarrel 10 = .ok (.aload_n 0, 1) := by decide +kernel
theorem dX11_queuedBarrel_11 : decode cX11_queuedBarrel 11 = .ok (.getfield 7, 3) := by decide +kernel
theorem dX11_queuedBarrel_14 : decode cX11_queuedBarrel 14 = .ok (.bipush 12, 2) := by decide +kernel
theorem dX11_queuedBarrel_16 : decode cX11_queuedBarrel 16 = .ok (.iaload, 1) := by decide +kernel
theorem dX11_queuedBarrel_17 : decode cX11_queuedBarrel 17 = .ok (.if_icmp .ge 15, 3) := by decide +kernel
theorem dX11_queuedBarrel_20 : decode cX11_queuedBarrel 20 = .ok (.aload_n 0, 1) := by decide +kernel
theorem dX11_queuedBarrel_21 : decode cX11_queuedBarrel 21 = .ok (.getfield 7, 3) := by decide +kernel
theorem dX11_queuedBarrel_24 : decode cX11_queuedBarrel 24 = .ok (.bipush 16, 2) := by decide +kernel
theorem dX11_queuedBarrel_26 : decode cX11_queuedBarrel 26 = .ok (.iload_n 1, 1) := by decide +kernel
theorem dX11_queuedBarrel_27 : decode cX11_queuedBarrel 27 = .ok (.iadd, 1) := by decide +kernel
theorem dX11_queuedBarrel_28 : decode cX11_queuedBarrel 28 = .ok (.iaload, 1) := by decide +kernel
theorem dX11_queuedBarrel_29 : decode cX11_queuedBarrel 29 = .ok (.goto 4, 3) := by decide +kernel
theorem dX11_queuedBarrel_32 : decode cX11_queuedBarrel 32 = .ok (.iconst (-1), 1) := by decide +kernel
theorem dX11_queuedBarrel_33 : decode cX11_queuedBarrel 33 = .ok (.ireturn, 1) := by decide +kernel
theorem dX11_barrelCount_0 : decode cX11_barrelCount 0 = .ok (.aload_n 0, 1) := by decide +kernel
theorem dX11_barrelCount_1 : decode cX11_barrelCount 1 = .ok (.iconst 0, 1) := by decide +kernel
theorem dX11_barrelCount_2 : decode cX11_barrelCount 2 = .ok (.putfield 54, 3) := by decide +kernel
theorem dX11_barrelCount_5 : decode cX11_barrelCount 5 = .ok (.aload_n 0, 1) := by decide +kernel
theorem dX11_barrelCount_6 : decode cX11_barrelCount 6 = .ok (.getfield 7, 3) := by decide +kernel
theorem dX11_barrelCount_9 : decode cX11_barrelCount 9 = .ok (.bipush 7, 2) := by decide +kernel
theorem dX11_barrelCount_11 : decode cX11_barrelCount 11 = .ok (.iaload, 1) := by decide +kernel
theorem dX11_barrelCount_12 : decode cX11_barrelCount 12 = .ok (.ireturn, 1) := by decide +kernel
theorem dX11_eels_0 : decode cX11_eels 0 = .ok (.aload_n 0, 1) := by decide +kernel
theorem dX11_eels_1 : decode cX11_eels 1 = .ok (.iload_n 1, 1) := by decide +kernel
theorem dX11_eels_2 : decode cX11_eels 2 = .ok (.invokevirtual 308, 3) := by decide +kernel
theorem dX11_eels_5 : decode cX11_eels 5 = .ok (.ifCond .eq 5, 3) := by decide +kernel
theorem dX11_eels_8 : decode cX11_eels 8 = .ok (.iconst 0, 1) := by decide +kernel
theorem dX11_eels_9 : decode cX11_eels 9 = .ok (.ireturn, 1) := by decide +kernel
theorem dX11_eels_10 : decode cX11_eels 10 = .ok (.aload_n 0, 1) := by decide +kernel
theorem dX11_eels_11 : decode cX11_eels 11 = .ok (.iload_n 1, 1) := by decide +kernel
theorem dX11_eels_12 : decode cX11_eels 12 = .ok (.iconst 0, 1) := by decide +kernel
theorem dX11_eels_13 : decode cX11_eels 13 = .ok (.invokevirtual 66, 3) := by decide +kernel
theorem dX11_eels_16 : decode cX11_eels 16 = .ok (.ireturn, 1) := by decide +kernel
theorem dX11_length_0 : decode cX11_length 0 = .ok (.aload_n 0, 1) := by decide +kernel
theorem dX11_length_1 : decode cX11_length 1 = .ok (.iload_n 1, 1) := by decide +kernel
theorem dX11_length_2 : decode cX11_length 2 = .ok (.invokevirtual 308, 3) := by decide +kernel
theorem dX11_length_5 : decode cX11_length 5 = .ok (.ifCond .ne 32, 3) := by decide +kernel
theorem dX11_length_8 : decode cX11_length 8 = .ok (.aload_n 0, 1) := by decide +kernel
theorem dX11_length_9 : decode cX11_length 9 = .ok (.iload_n 2, 1) := by decide +kernel
theorem dX11_length_10 : decode cX11_length 10 = .ok (.iconst 0, 1) := by decide +kernel
theorem dX11_length_11 : decode cX11_length 11 = .ok (.aload_n 0, 1) := by decide +kernel
theorem dX11_length_12 : decode cX11_length 12 = .ok (.iload_n 1, 1) := by decide +kernel
theorem dX11_length_13 : decode cX11_length 13 = .ok (.iconst 0, 1) := by decide +kernel
theorem dX11_length_14 : decode cX11_length 14 = .ok (.invokevirtual 66, 3) := by decide +kernel
theorem dX11_length_17 : decode cX11_length 17 = .ok (.iconst 1, 1) := by decide +kernel
theorem dX11_length_18 : decode cX11_length 18 = .ok (.isub, 1) := by decide +kernel
theorem dX11_length_19 : decode cX11_length 19 = .ok (.invokestatic 173, 3) := by decide +kernel
theorem dX11_length_22 : decode cX11_length 22 = .ok (.ifCond .ne 7, 3) := by decide +kernel
theorem dX11_length_25 : decode cX11_length 25 = .ok (.iconst 1, 1) := by decide +kernel
theorem dX11_length_26 : decode cX11_length 26 = .ok (.goto 4, 3) := by decide +kernel
theorem dX11_length_29 : decode cX11_length 29 = .ok (.iconst 0, 1) := by decide +kernel
theorem dX11_length_30 : decode cX11_length 30 = .ok (.iconst 1, 1) := by decide +kernel
theorem dX11_length_31 : decode cX11_length 31 = .ok (.invokevirtual 166, 3) := by decide +kernel
theorem dX11_length_34 : decode cX11_length 34 = .ok (.ifCond .eq 5, 3) := by decide +kernel
theorem dX11_length_37 : decode cX11_length 37 = .ok (.iconst 0, 1) := by decide +kernel
theorem dX11_length_38 : decode cX11_length 38 = .ok (.ireturn, 1) := by decide +kernel
theorem dX11_length_39 : decode cX11_length 39 = .ok (.aload_n 0, 1) := by decide +kernel
theorem dX11_length_40 : decode cX11_length 40 = .ok (.iload_n 1, 1) := by decide +kernel
theorem dX11_length_41 : decode cX11_length 41 = .ok (.iload_n 2, 1) := by decide +kernel
theorem dX11_length_42 : decode cX11_length 42 = .ok (.invokevirtual 80, 3) := by decide +kernel
theorem dX11_length_45 : decode cX11_length 45 = .ok (.ireturn, 1) := by decide +kernel
theorem dX11_totalLength_0 : decode cX11_totalLength 0 = .ok (.aload_n 0, 1) := by decide +kernel
theorem dX11_totalLength_1 : decode cX11_totalLength 1 = .ok (.iload_n 1, 1) := by decide +kernel
theorem dX11_totalLength_2 : decode cX11_totalLength 2 = .ok (.invokevirtual 308, 3) := by decide +kernel
theorem dX11_totalLength_5 : decode cX11_totalLength 5 = .ok (.ifCond .eq 5, 3) := by decide +kernel
theorem dX11_totalLength_8 : decode cX11_totalLength 8 = .ok (.iconst 0, 1) := by decide +kernel
theorem dX11_totalLength_9 : decode cX11_totalLength 9 = .ok (.ireturn, 1) := by decide +kernel
theorem dX11_totalLength_10 : decode cX11_totalLength 10 = .ok (.aload_n 0, 1) := by decide +kernel
theorem dX11_totalLength_11 : decode cX11_totalLength 11 = .ok (.iload_n 1, 1) := by decide +kernel
theorem dX11_totalLength_12 : decode cX11_totalLength 12 = .ok (.invokevirtual 89, 3) := by decide +kernel
theorem dX11_totalLength_15 : decode cX11_totalLength 15 = .ok (.ireturn, 1) := by decide +kernel
theorem dX11_greatestLength_0 : decode cX11_greatestLength 0 = .ok (.aload_n 0, 1) := by decide +kernel
theorem dX11_greatestLength_1 : decode cX11_greatestLength 1 = .ok (.iload_n 1, 1) := by decide +kernel
theorem dX11_greatestLength_2 : decode cX11_greatestLength 2 = .ok (.invokevirtual 308, 3) := by decide +kernel
theorem dX11_greatestLength_5 : decode cX11_greatestLength 5 = .ok (.ifCond .eq 5, 3) := by decide +kernel
theorem dX11_greatestLength_8 : decode cX11_greatestLength 8 = .ok (.iconst 0, 1) := by decide +kernel
theorem dX11_greatestLength_9 : decode cX11_greatestLength 9 = .ok (.ireturn, 1) := by decide +kernel
theorem dX11_greatestLength_10 : decode cX11_greatestLength 10 = .ok (.aload_n 0, 1) := by decide +kernel
theorem dX11_greatestLength_11 : decode cX11_greatestLength 11 = .ok (.iload_n 1, 1) := by decide +kernel
theorem dX11_greatestLength_12 : decode cX11_greatestLength 12 = .ok (.invokevirtual 96, 3) := by decide +kernel
theorem dX11_greatestLength_15 : decode cX11_greatestLength 15 = .ok (.ireturn, 1) := by decide +kernel
theorem dX11_middleLength_0 : decode cX11_middleLength 0 = .ok (.aload_n 0, 1) := by decide +kernel
theorem dX11_middleLength_1 : decode cX11_middleLength 1 = .ok (.iload_n 1, 1) := by decide +kernel
theorem dX11_middleLength_2 : decode cX11_middleLength 2 = .ok (.invokevirtual 308, 3) := by decide +kernel
theorem dX11_middleLength_5 : decode cX11_middleLength 5 = .ok (.ifCond .eq 5, 3) := by decide +kernel
theorem dX11_middleLength_8 : decode cX11_middleLength 8 = .ok (.iconst 0, 1) := by decide +kernel
theorem dX11_middleLength_9 : decode cX11_middleLength 9 = .ok (.ireturn, 1) := by decide +kernel
theorem dX11_middleLength_10 : decode cX11_middleLength 10 = .ok (.aload_n 0, 1) := by decide +kernel
theorem dX11_middleLength_11 : decode cX11_middleLength 11 = .ok (.iload_n 1, 1) := by decide +kernel
theorem dX11_middleLength_12 : decode cX11_middleLength 12 = .ok (.invokevirtual 311, 3) := by decide +kernel
theorem dX11_middleLength_15 : decode cX11_middleLength 15 = .ok (.ireturn, 1) := by decide +kernel
theorem dX11_reserve_0 : decode cX11_reserve 0 = .ok (.aload_n 0, 1) := by decide +kernel
theorem dX11_reserve_1 : decode cX11_reserve 1 = .ok (.iload_n 1, 1) := by decide +kernel
theorem dX11_reserve_2 : decode cX11_reserve 2 = .ok (.invokevirtual 308, 3) := by decide +kernel
theorem dX11_reserve_5 : decode cX11_reserve 5 = .ok (.ifCond .eq 5, 3) := by decide +kernel
theorem dX11_reserve_8 : decode cX11_reserve 8 = .ok (.iconst 0, 1) := by decide +kernel
theorem dX11_reserve_9 : decode cX11_reserve 9 = .ok (.ireturn, 1) := by decide +kernel
theorem dX11_reserve_10 : decode cX11_reserve 10 = .ok (.aload_n 0, 1) := by decide +kernel
theorem dX11_reserve_11 : decode cX11_reserve 11 = .ok (.iload_n 1, 1) := by decide +kernel
theorem dX11_reserve_12 : decode cX11_reserve 12 = .ok (.bipush 10, 2) := by decide +kernel
theorem dX11_reserve_14 : decode cX11_reserve 14 = .ok (.invokevirtual 66, 3) := by decide +kernel
theorem dX11_reserve_17 : decode cX11_reserve 17 = .ok (.ireturn, 1) := by decide +kernel
theorem dX11_stateOf_0 : decode cX11_stateOf 0 = .ok (.aload_n 0, 1) := by decide +kernel
theorem dX11_stateOf_1 : decode cX11_stateOf 1 = .ok (.iload_n 1, 1) := by decide +kernel
theorem dX11_stateOf_2 : decode cX11_stateOf 2 = .ok (.invokevirtual 308, 3) := by decide +kernel
theorem dX11_stateOf_5 : decode cX11_stateOf 5 = .ok (.ifCond .eq 5, 3) := by decide +kernel
theorem dX11_stateOf_8 : decode cX11_stateOf 8 = .ok (.iconst 0, 1) := by decide +kernel
theorem dX11_stateOf_9 : decode cX11_stateOf 9 = .ok (.ireturn, 1) := by decide +kernel
theorem dX11_stateOf_10 : decode cX11_stateOf 10 = .ok (.aload_n 0, 1) := by decide +kernel
theorem dX11_stateOf_11 : decode cX11_stateOf 11 = .ok (.iload_n 1, 1) := by decide +kernel
theorem dX11_stateOf_12 : decode cX11_stateOf 12 = .ok (.bipush 12, 2) := by decide +kernel
theorem dX11_stateOf_14 : decode cX11_stateOf 14 = .ok (.invokevirtual 66, 3) := by decide +kernel
theorem dX11_stateOf_17 : decode cX11_stateOf 17 = .ok (.ireturn, 1) := by decide +kernel
theorem dX11_returns_0 : decode cX11_returns 0 = .ok (.aload_n 0, 1) := by decide +kernel
theorem dX11_returns_1 : decode cX11_returns 1 = .ok (.iload_n 1, 1) := by decide +kernel
theorem dX11_returns_2 : decode cX11_returns 2 = .ok (.invokevirtual 308, 3) := by decide +kernel
theorem dX11_returns_5 : decode cX11_returns 5 = .ok (.ifCond .eq 5, 3) := by decide +kernel
theorem dX11_returns_8 : decode cX11_returns 8 = .ok (.iconst 0, 1) := by decide +kernel
theorem dX11_returns_9 : decode cX11_returns 9 = .ok (.ireturn, 1) := by decide +kernel
theorem dX11_returns_10 : decode cX11_returns 10 = .ok (.aload_n 0, 1) := by decide +kernel
theorem dX11_returns_11 : decode cX11_returns 11 = .ok (.iload_n 1, 1) := by decide +kernel
theorem dX11_returns_12 : decode cX11_returns 12 = .ok (.bipush 11, 2) := by decide +kernel
theorem dX11_returns_14 : decode cX11_returns 14 = .ok (.invokevirtual 66, 3) := by decide +kernel
theorem dX11_returns_17 : decode cX11_returns 17 = .ok (.ireturn, 1) := by decide +kernel
theorem dX11_buyerOf_0 : decode cX11_buyerOf 0 = .ok (.aload_n 0, 1) := by decide +kernel
theorem dX11_buyerOf_1 : decode cX11_buyerOf 1 = .ok (.iload_n 1, 1) := by decide +kernel
theorem dX11_buyerOf_2 : decode cX11_buyerOf 2 = .ok (.invokevirtual 308, 3) := by decide +kernel
theorem dX11_buyerOf_5 : decode cX11_buyerOf 5 = .ok (.ifCond .eq 5, 3) := by decide +kernel
theorem dX11_buyerOf_8 : decode cX11_buyerOf 8 = .ok (.iconst 0, 1) := by decide +kernel
theorem dX11_buyerOf_9 : decode cX11_buyerOf 9 = .ok (.ireturn, 1) := by decide +kernel
theorem dX11_buyerOf_10 : decode cX11_buyerOf 10 = .ok (.aload_n 0, 1) := by decide +kernel
theorem dX11_buyerOf_11 : decode cX11_buyerOf 11 = .ok (.iload_n 1, 1) := by decide +kernel
theorem dX11_buyerOf_12 : decode cX11_buyerOf 12 = .ok (.bipush 13, 2) := by decide +kernel
theorem dX11_buyerOf_14 : decode cX11_buyerOf 14 = .ok (.invokevirtual 66, 3) := by decide +kernel
theorem dX11_buyerOf_17 : decode cX11_buyerOf 17 = .ok (.ireturn, 1) := by decide +kernel
theorem dX11_priceOf_0 : decode cX11_priceOf 0 = .ok (.aload_n 0, 1) := by decide +kernel
theorem dX11_priceOf_1 : decode cX11_priceOf 1 = .ok (.iload_n 1, 1) := by decide +kernel
theorem dX11_priceOf_2 : decode cX11_priceOf 2 = .ok (.invokevirtual 308, 3) := by decide +kernel
theorem dX11_priceOf_5 : decode cX11_priceOf 5 = .ok (.ifCond .eq 5, 3) := by decide +kernel
theorem dX11_priceOf_8 : decode cX11_priceOf 8 = .ok (.iconst 0, 1) := by decide +kernel
theorem dX11_priceOf_9 : decode cX11_priceOf 9 = .ok (.ireturn, 1) := by decide +kernel
theorem dX11_priceOf_10 : decode cX11_priceOf 10 = .ok (.aload_n 0, 1) := by decide +kernel
theorem dX11_priceOf_11 : decode cX11_priceOf 11 = .ok (.iload_n 1, 1) := by decide +kernel
theorem dX11_priceOf_12 : decode cX11_priceOf 12 = .ok (.bipush 14, 2) := by decide +kernel
theorem dX11_priceOf_14 : decode cX11_priceOf 14 = .ok (.invokevirtual 66, 3) := by decide +kernel
theorem dX11_priceOf_17 : decode cX11_priceOf 17 = .ok (.ireturn, 1) := by decide +kernel
theorem dX11_pricePerLength_0 : decode cX11_pricePerLength 0 = .ok (.aload_n 0, 1) := by decide +kernel
theorem dX11_pricePerLength_1 : decode cX11_pricePerLength 1 = .ok (.iload_n 1, 1) := by decide +kernel
theorem dX11_pricePerLength_2 : decode cX11_pricePerLength 2 = .ok (.invokevirtual 308, 3) := by decide +kernel
theorem dX11_pricePerLength_5 : decode cX11_pricePerLength 5 = .ok (.ifCond .eq 5, 3) := by decide +kernel
theorem dX11_pricePerLength_8 : decode cX11_pricePerLength 8 = .ok (.fconst 0, 1) := by decide +kernel
theorem dX11_pricePerLength_9 : decode cX11_pricePerLength 9 = .ok (.freturn, 1) := by decide +kernel
theorem dX11_pricePerLength_10 : decode cX11_pricePerLength 10 = .ok (.aload_n 0, 1) := by decide +kernel
theorem dX11_pricePerLength_11 : decode cX11_pricePerLength 11 = .ok (.iload_n 1, 1) := by decide +kernel
theorem dX11_pricePerLength_12 : decode cX11_pricePerLength 12 = .ok (.bipush 12, 2) := by decide +kernel
theorem dX11_pricePerLength_14 : decode cX11_pricePerLength 14 = .ok (.invokevirtual 66, 3) := by decide +kernel
theorem dX11_pricePerLength_17 : decode cX11_pricePerLength 17 = .ok (.iconst 2, 1) := by decide +kernel
theorem dX11_pricePerLength_18 : decode cX11_pricePerLength 18 = .ok (.if_icmp .eq 5, 3) := by decide +kernel
theorem dX11_pricePerLength_21 : decode cX11_pricePerLength 21 = .ok (.fconst 0, 1) := by decide +kernel
theorem dX11_pricePerLength_22 : decode cX11_pricePerLength 22 = .ok (.freturn, 1) := by decide +kernel
theorem dX11_pricePerLength_23 : decode cX11_pricePerLength 23 = .ok (.aload_n 0, 1) := by decide +kernel
theorem dX11_pricePerLength_24 : decode cX11_pricePerLength 24 = .ok (.iload_n 1, 1) := by decide +kernel
theorem dX11_pricePerLength_25 : decode cX11_pricePerLength 25 = .ok (.bipush 14, 2) := by decide +kernel
theorem dX11_pricePerLength_27 : decode cX11_pricePerLength 27 = .ok (.invokevirtual 66, 3) := by decide +kernel
theorem dX11_pricePerLength_30 : decode cX11_pricePerLength 30 = .ok (.i2f, 1) := by decide +kernel
theorem dX11_pricePerLength_31 : decode cX11_pricePerLength 31 = .ok (.aload_n 0, 1) := by decide +kernel
theorem dX11_pricePerLength_32 : decode cX11_pricePerLength 32 = .ok (.iload_n 1, 1) := by decide +kernel
theorem dX11_pricePerLength_33 : decode cX11_pricePerLength 33 = .ok (.invokevirtual 89, 3) := by decide +kernel
theorem dX11_pricePerLength_36 : decode cX11_pricePerLength 36 = .ok (.i2f, 1) := by decide +kernel
theorem dX11_pricePerLength_37 : decode cX11_pricePerLength 37 = .ok (.fdiv, 1) := by decide +kernel
theorem dX11_pricePerLength_38 : decode cX11_pricePerLength 38 = .ok (.freturn, 1) := by decide +kernel
theorem dX11_buyerCount_0 : decode cX11_buyerCount 0 = .ok (.aload_n 0, 1) := by decide +kernel
theorem dX11_buyerCount_1 : decode cX11_buyerCount 1 = .ok (.iconst 0, 1) := by decide +kernel
theorem dX11_buyerCount_2 : decode cX11_buyerCount 2 = .ok (.putfield 54, 3) := by decide +kernel
theorem dX11_buyerCount_5 : decode cX11_buyerCount 5 = .ok (.aload_n 0, 1) := by decide +kernel
theorem dX11_buyerCount_6 : decode cX11_buyerCount 6 = .ok (.getfield 7, 3) := by decide +kernel
theorem dX11_buyerCount_9 : decode cX11_buyerCount 9 = .ok (.bipush 6, 2) := by decide +kernel
theorem dX11_buyerCount_11 : decode cX11_buyerCount 11 = .ok (.iaload, 1) := by decide +kernel
theorem dX11_buyerCount_12 : decode cX11_buyerCount 12 = .ok (.ireturn, 1) := by decide +kernel
theorem dX11_purse_0 : decode cX11_purse 0 = .ok (.aload_n 0, 1) := by decide +kernel
theorem dX11_purse_1 : decode cX11_purse 1 = .ok (.iload_n 1, 1) := by decide +kernel
theorem dX11_purse_2 : decode cX11_purse 2 = .ok (.invokevirtual 305, 3) := by decide +kernel
theorem dX11_purse_5 : decode cX11_purse 5 = .ok (.ifCond .eq 5, 3) := by decide +kernel
theorem dX11_purse_8 : decode cX11_purse 8 = .ok (.iconst 0, 1) := by decide +kernel
theorem dX11_purse_9 : decode cX11_purse 9 = .ok (.ireturn, 1) := by decide +kernel
theorem dX11_purse_10 : decode cX11_purse 10 = .ok (.aload_n 0, 1) := by decide +kernel
theorem dX11_purse_11 : decode cX11_purse 11 = .ok (.iload_n 1, 1) := by decide +kernel
theorem dX11_purse_12 : decode cX11_purse 12 = .ok (.iconst 0, 1) := by decide +kernel
theorem dX11_purse_13 : decode cX11_purse 13 = .ok (.invokevirtual 86, 3) := by decide +kernel
theorem dX11_purse_16 : decode cX11_purse 16 = .ok (.ireturn, 1) := by decide +kernel
theorem dX11_style_0 : decode cX11_style 0 = .ok (.aload_n 0, 1) := by decide +kernel
theorem dX11_style_1 : decode cX11_style 1 = .ok (.iload_n 1, 1) := by decide +kernel
theorem dX11_style_2 : decode cX11_style 2 = .ok (.invokevirtual 305, 3) := by decide +kernel
theorem dX11_style_5 : decode cX11_style 5 = .ok (.ifCond .eq 5, 3) := by decide +kernel
theorem dX11_style_8 : decode cX11_style 8 = .ok (.iconst 0, 1) := by decide +kernel
theorem dX11_style_9 : decode cX11_style 9 = .ok (.ireturn, 1) := by decide +kernel
theorem dX11_style_10 : decode cX11_style 10 = .ok (.aload_n 0, 1) := by decide +kernel
theorem dX11_style_11 : decode cX11_style 11 = .ok (.iload_n 1, 1) := by decide +kernel
theorem dX11_style_12 : decode cX11_style 12 = .ok (.iconst 1, 1) := by decide +kernel
theorem dX11_style_13 : decode cX11_style 13 = .ok (.invokevirtual 86, 3) := by decide +kernel
theorem dX11_style_16 : decode cX11_style 16 = .ok (.ireturn, 1) := by decide +kernel
theorem dX11_factor_0 : decode cX11_factor 0 = .ok (.aload_n 0, 1) := by decide +kernel
theorem dX11_factor_1 : decode cX11_factor 1 = .ok (.iload_n 1, 1) := by decide +kernel
theorem dX11_factor_2 : decode cX11_factor 2 = .ok (.invokevirtual 305, 3) := by decide +kernel
theorem dX11_factor_5 : decode cX11_factor 5 = .ok (.ifCond .eq 5, 3) := by decide +kernel
theorem dX11_factor_8 : decode cX11_factor 8 = .ok (.iconst 0, 1) := by decide +kernel
theorem dX11_factor_9 : decode cX11_factor 9 = .ok (.ireturn, 1) := by decide +kernel
theorem dX11_factor_10 : decode cX11_factor 10 = .ok (.aload_n 0, 1) := by decide +kernel
theorem dX11_factor_11 : decode cX11_factor 11 = .ok (.iload_n 1, 1) := by decide +kernel
theorem dX11_factor_12 : decode cX11_factor 12 = .ok (.iconst 2, 1) := by decide +kernel
theorem dX11_factor_13 : decode cX11_factor 13 = .ok (.invokevirtual 86, 3) := by decide +kernel
theorem dX11_factor_16 : decode cX11_factor 16 = .ok (.ireturn, 1) := by decide +kernel
theorem dX11_bought_0 : decode cX11_bought 0 = .ok (.aload_n 0, 1) := by decide +kernel
theorem dX11_bought_1 : decode cX11_bought 1 = .ok (.iload_n 1, 1) := by decide +kernel
theorem dX11_bought_2 : decode cX11_bought 2 = .ok (.invokevirtual 305, 3) := by decide +kernel
theorem dX11_bought_5 : decode cX11_bought 5 = .ok (.ifCond .eq 5, 3) := by decide +kernel
theorem dX11_bought_8 : decode cX11_bought 8 = .ok (.iconst 0, 1) := by decide +kernel
theorem dX11_bought_9 : decode cX11_bought 9 = .ok (.ireturn, 1) := by decide +kernel
theorem dX11_bought_10 : decode cX11_bought 10 = .ok (.aload_n 0, 1) := by decide +kernel
theorem dX11_bought_11 : decode cX11_bought 11 = .ok (.iload_n 1, 1) := by decide +kernel
theorem dX11_bought_12 : decode cX11_bought 12 = .ok (.iconst 3, 1) := by decide +kernel
theorem dX11_bought_13 : decode cX11_bought 13 = .ok (.invokevirtual 86, 3) := by decide +kernel
theorem dX11_bought_16 : decode cX11_bought 16 = .ok (.ireturn, 1) := by decide +kernel
theorem dX11_nods_0 : decode cX11_nods 0 = .ok (.aload_n 0, 1) := by decide +kernel
theorem dX11_nods_1 : decode cX11_nods 1 = .ok (.iload_n 1, 1) := by decide +kernel
theorem dX11_nods_2 : decode cX11_nods 2 = .ok (.invokevirtual 305, 3) := by decide +kernel
theorem dX11_nods_5 : decode cX11_nods 5 = .ok (.ifCond .eq 5, 3) := by decide +kernel
theorem dX11_nods_8 : decode cX11_nods 8 = .ok (.iconst 0, 1) := by decide +kernel
theorem dX11_nods_9 : decode cX11_nods 9 = .ok (.ireturn, 1) := by decide +kernel
theorem dX11_nods_10 : decode cX11_nods 10 = .ok (.aload_n 0, 1) := by decide +kernel
theorem dX11_nods_11 : decode cX11_nods 11 = .ok (.iload_n 1, 1) := by decide +kernel
theorem dX11_nods_12 : decode cX11_nods 12 = .ok (.iconst 4, 1) := by decide +kernel
theorem dX11_nods_13 : decode cX11_nods 13 = .ok (.invokevirtual 86, 3) := by decide +kernel
theorem dX11_nods_16 : decode cX11_nods 16 = .ok (.ireturn, 1) := by decide +kernel
theorem dX11_worth_0 : decode cX11_worth 0 = .ok (.aload_n 0, 1) := by decide +kernel
theorem dX11_worth_1 : decode cX11_worth 1 = .ok (.iload_n 1, 1) := by decide +kernel
theorem dX11_worth_2 : decode cX11_worth 2 = .ok (.invokevirtual 305, 3) := by decide +kernel
theorem dX11_worth_5 : decode cX11_worth 5 = .ok (.ifCond .ne 11, 3) := by decide +kernel
theorem dX11_worth_8 : decode cX11_worth 8 = .ok (.aload_n 0, 1) := by decide +kernel
theorem dX11_worth_9 : decode cX11_worth 9 = .ok (.iload_n 2, 1) := by decide +kernel
theorem dX11_worth_10 : decode cX11_worth 10 = .ok (.invokevirtual 308, 3) := by decide +kernel
theorem dX11_worth_13 : decode cX11_worth 13 = .ok (.ifCond .eq 5, 3) := by decide +kernel
theorem dX11_worth_16 : decode cX11_worth 16 = .ok (.dconst 0, 1) := by decide +kernel
theorem dX11_worth_17 : decode cX11_worth 17 = .ok (.dreturn, 1) := by decide +kernel
theorem dX11_worth_18 : decode cX11_worth 18 = .ok (.aload_n 0, 1) := by decide +kernel
theorem dX11_worth_19 : decode cX11_worth 19 = .ok (.iload_n 1, 1) := by decide +kernel
theorem dX11_worth_20 : decode cX11_worth 20 = .ok (.iload_n 2, 1) := by decide +kernel
theorem dX11_worth_21 : decode cX11_worth 21 = .ok (.invokevirtual 119, 3) := by decide +kernel
theorem dX11_worth_24 : decode cX11_worth 24 = .ok (.dreturn, 1) := by decide +kernel
theorem dX11_endTrial_0 : decode cX11_endTrial 0 = .ok (.aload_n 0, 1) := by decide +kernel
theorem dX11_endTrial_1 : decode cX11_endTrial 1 = .ok (.bipush 12, 2) := by decide +kernel
theorem dX11_endTrial_3 : decode cX11_endTrial 3 = .ok (.iconst 0, 1) := by decide +kernel
theorem dX11_endTrial_4 : decode cX11_endTrial 4 = .ok (.invokevirtual 63, 3) := by decide +kernel
theorem dX11_endTrial_7 : decode cX11_endTrial 7 = .ok (.iload_n 1, 1) := by decide +kernel
theorem dX11_endTrial_8 : decode cX11_endTrial 8 = .ok (.ireturn, 1) := by decide +kernel
theorem dX11_whyNotNod_0 : decode cX11_whyNotNod 0 = .ok (.aload_n 0, 1) := by decide +kernel
theorem dX11_whyNotNod_1 : decode cX11_whyNotNod 1 = .ok (.iload_n 1, 1) := by decide +kernel
theorem dX11_whyNotNod_2 : decode cX11_whyNotNod 2 = .ok (.invokevirtual 305, 3) := by decide +kernel
theorem dX11_whyNotNod_5 : decode cX11_whyNotNod 5 = .ok (.ifCond .eq 5, 3) := by decide +kernel
theorem dX11_whyNotNod_8 : decode cX11_whyNotNod 8 = .ok (.iconst 0, 1) := by decide +kernel
theorem dX11_whyNotNod_9 : decode cX11_whyNotNod 9 = .ok (.ireturn, 1) := by decide +kernel
theorem dX11_whyNotNod_10 : decode cX11_whyNotNod 10 = .ok (.aload_n 0, 1) := by decide +kernel
theorem dX11_whyNotNod_11 : decode cX11_whyNotNod 11 = .ok (.iload_n 1, 1) := by decide +kernel
theorem dX11_whyNotNod_12 : decode cX11_whyNotNod 12 = .ok (.invokevirtual 116, 3) := by decide +kernel
theorem dX11_whyNotNod_15 : decode cX11_whyNotNod 15 = .ok (.ireturn, 1) := by decide +kernel
theorem dX11_costOf_0 : decode cX11_costOf 0 = .ok (.aload_n 0, 1) := by decide +kernel
theorem dX11_costOf_1 : decode cX11_costOf 1 = .ok (.iconst 0, 1) := by decide +kernel
theorem dX11_costOf_2 : decode cX11_costOf 2 = .ok (.putfield 54, 3) := by decide +kernel
theorem dX11_costOf_5 : decode cX11_costOf 5 = .ok (.aload_n 0, 1) := by decide +kernel
theorem dX11_costOf_6 : decode cX11_costOf 6 = .ok (.iload_n 1, 1) := by decide +kernel
theorem dX11_costOf_7 : decode cX11_costOf 7 = .ok (.iconst 0, 1) := by decide +kernel
theorem dX11_costOf_8 : decode cX11_costOf 8 = .ok (.sipush 9999, 3) := by decide +kernel
theorem dX11_costOf_11 : decode cX11_costOf 11 = .ok (.invokestatic 173, 3) := by decide +kernel
theorem dX11_costOf_14 : decode cX11_costOf 14 = .ok (.ifCond .ne 7, 3) := by decide +kernel
theorem dX11_costOf_17 : decode cX11_costOf 17 = .ok (.iconst 1, 1) := by decide +kernel
theorem dX11_costOf_18 : decode cX11_costOf 18 = .ok (.goto 4, 3) := by decide +kernel
theorem dX11_costOf_21 : decode cX11_costOf 21 = .ok (.iconst 0, 1) := by decide +kernel
theorem dX11_costOf_22 : decode cX11_costOf 22 = .ok (.iconst 1, 1) := by decide +kernel
theorem dX11_costOf_23 : decode cX11_costOf 23 = .ok (.invokevirtual 166, 3) := by decide +kernel
theorem dX11_costOf_26 : decode cX11_costOf 26 = .ok (.ifCond .eq 5, 3) := by decide +kernel
theorem dX11_costOf_29 : decode cX11_costOf 29 = .ok (.iconst 0, 1) := by decide +kernel
theorem dX11_costOf_30 : decode cX11_costOf 30 = .ok (.ireturn, 1) := by decide +kernel
theorem dX11_costOf_31 : decode cX11_costOf 31 = .ok (.aload_n 0, 1) := by decide +kernel
theorem dX11_costOf_32 : decode cX11_costOf 32 = .ok (.iload_n 1, 1) := by decide +kernel
theorem dX11_costOf_33 : decode cX11_costOf 33 = .ok (.invokevirtual 113, 3) := by decide +kernel
theorem dX11_costOf_36 : decode cX11_costOf 36 = .ok (.ireturn, 1) := by decide +kernel
theorem dX11_nextNodder_0 : decode cX11_nextNodder 0 = .ok (.aload_n 0, 1) := by decide +kernel
theorem dX11_nextNodder_1 : decode cX11_nextNodder 1 = .ok (.iconst 0, 1) := by decide +kernel
theorem dX11_nextNodder_2 : decode cX11_nextNodder 2 = .ok (.putfield 54, 3) := by decide +kernel
theorem dX11_nextNodder_5 : decode cX11_nextNodder 5 = .ok (.aload_n 0, 1) := by decide +kernel
theorem dX11_nextNodder_6 : decode cX11_nextNodder 6 = .ok (.invokevirtual 132, 3) := by decide +kernel
theorem dX11_nextNodder_9 : decode cX11_nextNodder 9 = .ok (.ireturn, 1) := by decide +kernel
theorem dX11_keenestBuyer_0 : decode cX11_keenestBuyer 0 = .ok (.aload_n 0, 1) := by decide +kernel
theorem dX11_keenestBuyer_1 : decode cX11_keenestBuyer 1 = .ok (.iload_n 1, 1) := by decide +kernel
theorem dX11_keenestBuyer_2 : decode cX11_keenestBuyer 2 = .ok (.invokevirtual 308, 3) := by decide +kernel
theorem dX11_keenestBuyer_5 : decode cX11_keenestBuyer 5 = .ok (.ifCond .eq 5, 3) := by decide +kernel
theorem dX11_keenestBuyer_8 : decode cX11_keenestBuyer 8 = .ok (.iconst 0, 1) := by decide +kernel
theorem dX11_keenestBuyer_9 : decode cX11_keenestBuyer 9 = .ok (.ireturn, 1) := by decide +kernel
theorem dX11_keenestBuyer_10 : decode cX11_keenestBuyer 10 = .ok (.iconst 0, 1) := by decide +kernel
theorem dX11_keenestBuyer_11 : decode cX11_keenestBuyer 11 = .ok (.istore_n 2, 1) := by decide +kernel
theorem dX11_keenestBuyer_12 : decode cX11_keenestBuyer 12 = .ok (.iconst 1, 1) := by decide +kernel
theorem dX11_keenestBuyer_13 : decode cX11_keenestBuyer 13 = .ok (.istore_n 3, 1) := by decide +kernel
theorem dX11_keenestBuyer_14 : decode cX11_keenestBuyer 14 = .ok (.iload_n 3, 1) := by decide +kernel
theorem dX11_keenestBuyer_15 : decode cX11_keenestBuyer 15 = .ok (.aload_n 0, 1) := by decide +kernel
theorem dX11_keenestBuyer_16 : decode cX11_keenestBuyer 16 = .ok (.getfield 7, 3) := by decide +kernel
theorem dX11_keenestBuyer_19 : decode cX11_keenestBuyer 19 = .ok (.bipush 6, 2) := by decide +kernel
theorem dX11_keenestBuyer_21 : decode cX11_keenestBuyer 21 = .ok (.iaload, 1) := by decide +kernel
theorem dX11_keenestBuyer_22 : decode cX11_keenestBuyer 22 = .ok (.if_icmp .ge 27, 3) := by decide +kernel
theorem dX11_keenestBuyer_25 : decode cX11_keenestBuyer 25 = .ok (.aload_n 0, 1) := by decide +kernel
theorem dX11_keenestBuyer_26 : decode cX11_keenestBuyer 26 = .ok (.iload_n 3, 1) := by decide +kernel
theorem dX11_keenestBuyer_27 : decode cX11_keenestBuyer 27 = .ok (.iload_n 1, 1) := by decide +kernel
theorem dX11_keenestBuyer_28 : decode cX11_keenestBuyer 28 = .ok (.invokevirtual 119, 3) := by decide +kernel
theorem dX11_keenestBuyer_31 : decode cX11_keenestBuyer 31 = .ok (.aload_n 0, 1) := by decide +kernel
theorem dX11_keenestBuyer_32 : decode cX11_keenestBuyer 32 = .ok (.iload_n 2, 1) := by decide +kernel
theorem dX11_keenestBuyer_33 : decode cX11_keenestBuyer 33 = .ok (.iload_n 1, 1) := by decide +kernel
theorem dX11_keenestBuyer_34 : decode cX11_keenestBuyer 34 = .ok (.invokevirtual 119, 3) := by decide +kernel
theorem dX11_keenestBuyer_37 : decode cX11_keenestBuyer 37 = .ok (.dcmp .l, 1) := by decide +kernel
theorem dX11_keenestBuyer_38 : decode cX11_keenestBuyer 38 = .ok (.ifCond .le 5, 3) := by decide +kernel
theorem dX11_keenestBuyer_41 : decode cX11_keenestBuyer 41 = .ok (.iload_n 3, 1) := by decide +kernel
theorem dX11_keenestBuyer_42 : decode cX11_keenestBuyer 42 = .ok (.istore_n 2, 1) := by decide +kernel
theorem dX11_keenestBuyer_43 : decode cX11_keenestBuyer 43 = .ok (.iinc 3 1, 3) := by decide +kernel
theorem dX11_keenestBuyer_46 : decode cX11_keenestBuyer 46 = .ok (.goto (-32), 3) := by decide +kernel
theorem dX11_keenestBuyer_49 : decode cX11_keenestBuyer 49 = .ok (.iload_n 2, 1) := by decide +kernel
theorem dX11_keenestBuyer_50 : decode cX11_keenestBuyer 50 = .ok (.ireturn, 1) := by decide +kernel
theorem dX11_minutesToSale_0 : decode cX11_minutesToSale 0 = .ok (.aload_n 0, 1) := by decide +kernel
theorem dX11_minutesToSale_1 : decode cX11_minutesToSale 1 = .ok (.iload_n 1, 1) := by decide +kernel
theorem dX11_minutesToSale_2 : decode cX11_minutesToSale 2 = .ok (.invokevirtual 308, 3) := by decide +kernel
theorem dX11_minutesToSale_5 : decode cX11_minutesToSale 5 = .ok (.ifCond .eq 5, 3) := by decide +kernel
theorem dX11_minutesToSale_8 : decode cX11_minutesToSale 8 = .ok (.iconst 0, 1) := by decide +kernel
theorem dX11_minutesToSale_9 : decode cX11_minutesToSale 9 = .ok (.ireturn, 1) := by decide +kernel
theorem dX11_minutesToSale_10 : decode cX11_minutesToSale 10 = .ok (.aload_n 0, 1) := by decide +kernel
theorem dX11_minutesToSale_11 : decode cX11_minutesToSale 11 = .ok (.iconst 0, 1) := by decide +kernel
theorem dX11_minutesToSale_12 : decode cX11_minutesToSale 12 = .ok (.bipush 12, 2) := by decide +kernel
theorem dX11_minutesToSale_14 : decode cX11_minutesToSale 14 = .ok (.invokevirtual 63, 3) := by decide +kernel
theorem dX11_minutesToSale_17 : decode cX11_minutesToSale 17 = .ok (.iconst 0, 1) := by decide +kernel
theorem dX11_minutesToSale_18 : decode cX11_minutesToSale 18 = .ok (.istore_n 2, 1) := by decide +kernel
theorem dX11_minutesToSale_19 : decode cX11_minutesToSale 19 = .ok (.aload_n 0, 1) := by decide +kernel
theorem dX11_minutesToSale_20 : decode cX11_minutesToSale 20 = .ok (.iload_n 1, 1) := by decide +kernel
theorem dX11_minutesToSale_21 : decode cX11_minutesToSale 21 = .ok (.bipush 12, 2) := by decide +kernel
theorem dX11_minutesToSale_23 : decode cX11_minutesToSale 23 = .ok (.invokevirtual 66, 3) := by decide +kernel
theorem dX11_minutesToSale_26 : decode cX11_minutesToSale 26 = .ok (.iconst 2, 1) := by decide +kernel
theorem dX11_minutesToSale_27 : decode cX11_minutesToSale 27 = .ok (.if_icmp .eq 20, 3) := by decide +kernel
theorem dX11_minutesToSale_30 : decode cX11_minutesToSale 30 = .ok (.iload_n 2, 1) := by decide +kernel
theorem dX11_minutesToSale_31 : decode cX11_minutesToSale 31 = .ok (.sipush 500, 3) := by decide +kernel
theorem dX11_minutesToSale_34 : decode cX11_minutesToSale 34 = .ok (.if_icmp .ge 13, 3) := by decide +kernel
theorem dX11_minutesToSale_37 : decode cX11_minutesToSale 37 = .ok (.aload_n 0, 1) := by decide +kernel
theorem dX11_minutesToSale_38 : decode cX11_minutesToSale 38 = .ok (.invokevirtual 153, 3) := by decide +kernel
theorem dX11_minutesToSale_41 : decode cX11_minutesToSale 41 = .ok (.iinc 2 1, 3) := by decide +kernel
theorem dX11_minutesToSale_44 : decode cX11_minutesToSale 44 = .ok (.goto (-25), 3) := by decide +kernel
theorem dX11_minutesToSale_47 : decode cX11_minutesToSale 47 = .ok (.aload_n 0, 1) := by decide +kernel
theorem dX11_minutesToSale_48 : decode cX11_minutesToSale 48 = .ok (.aload_n 0, 1) := by decide +kernel
theorem dX11_minutesToSale_49 : decode cX11_minutesToSale 49 = .ok (.iload_n 1, 1) := by decide +kernel
theorem dX11_minutesToSale_50 : decode cX11_minutesToSale 50 = .ok (.bipush 12, 2) := by decide +kernel
theorem dX11_minutesToSale_52 : decode cX11_minutesToSale 52 = .ok (.invokevirtual 66, 3) := by decide +kernel
theorem dX11_minutesToSale_55 : decode cX11_minutesToSale 55 = .ok (.iconst 2, 1) := by decide +kernel
theorem dX11_minutesToSale_56 : decode cX11_minutesToSale 56 = .ok (.if_icmp .ne 7, 3) := by decide +kernel
theorem dX11_minutesToSale_59 : decode cX11_minutesToSale 59 = .ok (.iload_n 2, 1) := by decide +kernel
theorem dX11_minutesToSale_60 : decode cX11_minutesToSale 60 = .ok (.goto 4, 3) := by decide +kernel
theorem dX11_minutesToSale_63 : decode cX11_minutesToSale 63 = .ok (.iconst (-1), 1) := by decide +kernel
theorem dX11_minutesToSale_64 : decode cX11_minutesToSale 64 = .ok (.invokevirtual 314, 3) := by decide +kernel
theorem dX11_minutesToSale_67 : decode cX11_minutesToSale 67 = .ok (.ireturn, 1) := by decide +kernel
theorem dX11_buyerAfter_0 : decode cX11_buyerAfter 0 = .ok (.aload_n 0, 1) := by decide +kernel
theorem dX11_buyerAfter_1 : decode cX11_buyerAfter 1 = .ok (.iload_n 1, 1) := by decide +kernel
theorem dX11_buyerAfter_2 : decode cX11_buyerAfter 2 = .ok (.invokevirtual 308, 3) := by decide +kernel
theorem dX11_buyerAfter_5 : decode cX11_buyerAfter 5 = .ok (.ifCond .ne 27, 3) := by decide +kernel
theorem dX11_buyerAfter_8 : decode cX11_buyerAfter 8 = .ok (.aload_n 0, 1) := by decide +kernel
theorem dX11_buyerAfter_9 : decode cX11_buyerAfter 9 = .ok (.iload_n 2, 1) := by decide +kernel
theorem dX11_buyerAfter_10 : decode cX11_buyerAfter 10 = .ok (.iconst 0, 1) := by decide +kernel
theorem dX11_buyerAfter_11 : decode cX11_buyerAfter 11 = .ok (.sipush 500, 3) := by decide +kernel
theorem dX11_buyerAfter_14 : decode cX11_buyerAfter 14 = .ok (.invokestatic 173, 3) := by decide +kernel
theorem dX11_buyerAfter_17 : decode cX11_buyerAfter 17 = .ok (.ifCond .ne 7, 3) := by decide +kernel
theorem dX11_buyerAfter_20 : decode cX11_buyerAfter 20 = .ok (.iconst 1, 1) := by decide +kernel
theorem dX11_buyerAfter_21 : decode cX11_buyerAfter 21 = .ok (.goto 4, 3) := by decide +kernel
theorem dX11_buyerAfter_24 : decode cX11_buyerAfter 24 = .ok (.iconst 0, 1) := by decide +kernel
theorem dX11_buyerAfter_25 : decode cX11_buyerAfter 25 = .ok (.iconst 2, 1) := by decide +kernel
theorem dX11_buyerAfter_26 : decode cX11_buyerAfter 26 = .ok (.invokevirtual 166, 3) := by decide +kernel
theorem dX11_buyerAfter_29 : decode cX11_buyerAfter 29 = .ok (.ifCond .eq 5, 3) := by decide +kernel
theorem dX11_buyerAfter_32 : decode cX11_buyerAfter 32 = .ok (.iconst 0, 1) := by decide +kernel
theorem dX11_buyerAfter_33 : decode cX11_buyerAfter 33 = .ok (.ireturn, 1) := by decide +kernel
theorem dX11_buyerAfter_34 : decode cX11_buyerAfter 34 = .ok (.aload_n 0, 1) := by decide +kernel
theorem dX11_buyerAfter_35 : decode cX11_buyerAfter 35 = .ok (.iconst 0, 1) := by decide +kernel
theorem dX11_buyerAfter_36 : decode cX11_buyerAfter 36 = .ok (.bipush 12, 2) := by decide +kernel
theorem dX11_buyerAfter_38 : decode cX11_buyerAfter 38 = .ok (.invokevirtual 63, 3) := by decide +kernel
theorem dX11_buyerAfter_41 : decode cX11_buyerAfter 41 = .ok (.aload_n 0, 1) := by decide +kernel
theorem dX11_buyerAfter_42 : decode cX11_buyerAfter 42 = .ok (.iload_n 2, 1) := by decide +kernel
theorem dX11_buyerAfter_43 : decode cX11_buyerAfter 43 = .ok (.invokevirtual 296, 3) := by decide +kernel
theorem dX11_buyerAfter_46 : decode cX11_buyerAfter 46 = .ok (.pop, 1) := by decide +kernel
theorem dX11_buyerAfter_47 : decode cX11_buyerAfter 47 = .ok (.aload_n 0, 1) := by decide +kernel
theorem dX11_buyerAfter_48 : decode cX11_buyerAfter 48 = .ok (.aload_n 0, 1) := by decide +kernel
theorem dX11_buyerAfter_49 : decode cX11_buyerAfter 49 = .ok (.iload_n 1, 1) := by decide +kernel
theorem dX11_buyerAfter_50 : decode cX11_buyerAfter 50 = .ok (.bipush 13, 2) := by decide +kernel
theorem dX11_buyerAfter_52 : decode cX11_buyerAfter 52 = .ok (.invokevirtual 66, 3) := by decide +kernel
theorem dX11_buyerAfter_55 : decode cX11_buyerAfter 55 = .ok (.invokevirtual 314, 3) := by decide +kernel
theorem dX11_buyerAfter_58 : decode cX11_buyerAfter 58 = .ok (.ireturn, 1) := by decide +kernel
theorem dX11_coinsWith_0 : decode cX11_coinsWith 0 = .ok (.aload_n 0, 1) := by decide +kernel
theorem dX11_coinsWith_1 : decode cX11_coinsWith 1 = .ok (.iconst 0, 1) := by decide +kernel
theorem dX11_coinsWith_2 : decode cX11_coinsWith 2 = .ok (.bipush 12, 2) := by decide +kernel
theorem dX11_coinsWith_4 : decode cX11_coinsWith 4 = .ok (.invokevirtual 63, 3) := by decide +kernel
theorem dX11_coinsWith_7 : decode cX11_coinsWith 7 = .ok (.aload_n 0, 1) := by decide +kernel
theorem dX11_coinsWith_8 : decode cX11_coinsWith 8 = .ok (.getfield 7, 3) := by decide +kernel
theorem dX11_coinsWith_11 : decode cX11_coinsWith 11 = .ok (.iconst 3, 1) := by decide +kernel
theorem dX11_coinsWith_12 : decode cX11_coinsWith 12 = .ok (.iload_n 1, 1) := by decide +kernel
theorem dX11_coinsWith_13 : decode cX11_coinsWith 13 = .ok (.iastore, 1) := by decide +kernel
theorem dX11_coinsWith_14 : decode cX11_coinsWith 14 = .ok (.aload_n 0, 1) := by decide +kernel
theorem dX11_coinsWith_15 : decode cX11_coinsWith 15 = .ok (.iload_n 2, 1) := by decide +kernel
theorem dX11_coinsWith_16 : decode cX11_coinsWith 16 = .ok (.invokevirtual 296, 3) := by decide +kernel
theorem dX11_coinsWith_19 : decode cX11_coinsWith 19 = .ok (.pop, 1) := by decide +kernel
theorem dX11_coinsWith_20 : decode cX11_coinsWith 20 = .ok (.aload_n 0, 1) := by decide +kernel
theorem dX11_coinsWith_21 : decode cX11_coinsWith 21 = .ok (.aload_n 0, 1) := by decide +kernel
theorem dX11_coinsWith_22 : decode cX11_coinsWith 22 = .ok (.getfield 7, 3) := by decide +kernel
theorem dX11_coinsWith_25 : decode cX11_coinsWith 25 = .ok (.bipush 13, 2) := by decide +kernel
theorem dX11_coinsWith_27 : decode cX11_coinsWith 27 = .ok (.iaload, 1) := by decide +kernel
theorem dX11_coinsWith_28 : decode cX11_coinsWith 28 = .ok (.invokevirtual 314, 3) := by decide +kernel
theorem dX11_coinsWith_31 : decode cX11_coinsWith 31 = .ok (.ireturn, 1) := by decide +kernel
theorem dX11_sellerCoinsAfter_0 : decode cX11_sellerCoinsAfter 0 = .ok (.aload_n 0, 1) := by decide +kernel
theorem dX11_sellerCoinsAfter_1 : decode cX11_sellerCoinsAfter 1 = .ok (.iconst 0, 1) := by decide +kernel
theorem dX11_sellerCoinsAfter_2 : decode cX11_sellerCoinsAfter 2 = .ok (.putfield 54, 3) := by decide +kernel
theorem dX11_sellerCoinsAfter_5 : decode cX11_sellerCoinsAfter 5 = .ok (.aload_n 0, 1) := by decide +kernel
theorem dX11_sellerCoinsAfter_6 : decode cX11_sellerCoinsAfter 6 = .ok (.iload_n 1, 1) := by decide +kernel
theorem dX11_sellerCoinsAfter_7 : decode cX11_sellerCoinsAfter 7 = .ok (.iconst 0, 1) := by decide +kernel
theorem dX11_sellerCoinsAfter_8 : decode cX11_sellerCoinsAfter 8 = .ok (.sipush 500, 3) := by decide +kernel
theorem dX11_sellerCoinsAfter_11 : decode cX11_sellerCoinsAfter 11 = .ok (.invokestatic 173, 3) := by decide +kernel
theorem dX11_sellerCoinsAfter_14 : decode cX11_sellerCoinsAfter 14 = .ok (.ifCond .ne 7, 3) := by decide +kernel
theorem dX11_sellerCoinsAfter_17 : decode cX11_sellerCoinsAfter 17 = .ok (.iconst 1, 1) := by decide +kernel
theorem dX11_sellerCoinsAfter_18 : decode cX11_sellerCoinsAfter 18 = .ok (.goto 4, 3) := by decide +kernel
theorem dX11_sellerCoinsAfter_21 : decode cX11_sellerCoinsAfter 21 = .ok (.iconst 0, 1) := by decide +kernel
theorem dX11_sellerCoinsAfter_22 : decode cX11_sellerCoinsAfter 22 = .ok (.iconst 1, 1) := by decide +kernel
theorem dX11_sellerCoinsAfter_23 : decode cX11_sellerCoinsAfter 23 = .ok (.invokevirtual 166, 3) := by decide +kernel
theorem dX11_sellerCoinsAfter_26 : decode cX11_sellerCoinsAfter 26 = .ok (.ifCond .eq 5, 3) := by decide +kernel
theorem dX11_sellerCoinsAfter_29 : decode cX11_sellerCoinsAfter 29 = .ok (.iconst 0, 1) := by decide +kernel
theorem dX11_sellerCoinsAfter_30 : decode cX11_sellerCoinsAfter 30 = .ok (.ireturn, 1) := by decide +kernel
theorem dX11_sellerCoinsAfter_31 : decode cX11_sellerCoinsAfter 31 = .ok (.aload_n 0, 1) := by decide +kernel
theorem dX11_sellerCoinsAfter_32 : decode cX11_sellerCoinsAfter 32 = .ok (.aload_n 0, 1) := by decide +kernel
theorem dX11_sellerCoinsAfter_33 : decode cX11_sellerCoinsAfter 33 = .ok (.getfield 7, 3) := by decide +kernel
theorem dX11_sellerCoinsAfter_36 : decode cX11_sellerCoinsAfter 36 = .ok (.iconst 3, 1) := by decide +kernel
theorem dX11_sellerCoinsAfter_37 : decode cX11_sellerCoinsAfter 37 = .ok (.iaload, 1) := by decide +kernel
theorem dX11_sellerCoinsAfter_38 : decode cX11_sellerCoinsAfter 38 = .ok (.iload_n 1, 1) := by decide +kernel
theorem dX11_sellerCoinsAfter_39 : decode cX11_sellerCoinsAfter 39 = .ok (.invokevirtual 317, 3) := by decide +kernel
theorem dX11_sellerCoinsAfter_42 : decode cX11_sellerCoinsAfter 42 = .ok (.ireturn, 1) := by decide +kernel
theorem dX11_bestStep_0 : decode cX11_bestStep 0 = .ok (.aload_n 0, 1) := by decide +kernel
theorem dX11_bestStep_1 : decode cX11_bestStep 1 = .ok (.iconst 0, 1) := by decide +kernel
theorem dX11_bestStep_2 : decode cX11_bestStep 2 = .ok (.putfield 54, 3) := by decide +kernel
theorem dX11_bestStep_5 : decode cX11_bestStep 5 = .ok (.aload_n 0, 1) := by decide +kernel
theorem dX11_bestStep_6 : decode cX11_bestStep 6 = .ok (.iload_n 1, 1) := by decide +kernel
theorem dX11_bestStep_7 : decode cX11_bestStep 7 = .ok (.iconst 0, 1) := by decide +kernel
theorem dX11_bestStep_8 : decode cX11_bestStep 8 = .ok (.sipush 500, 3) := by decide +kernel
theorem dX11_bestStep_11 : decode cX11_bestStep 11 = .ok (.invokestatic 173, 3) := by decide +kernel
theorem dX11_bestStep_14 : decode cX11_bestStep 14 = .ok (.ifCond .ne 7, 3) := by decide +kernel
theorem dX11_bestStep_17 : decode cX11_bestStep 17 = .ok (.iconst 1, 1) := by decide +kernel
theorem dX11_bestStep_18 : decode cX11_bestStep 18 = .ok (.goto 4, 3) := by decide +kernel
theorem dX11_bestStep_21 : decode cX11_bestStep 21 = .ok (.iconst 0, 1) := by decide +kernel
theorem dX11_bestStep_22 : decode cX11_bestStep 22 = .ok (.iconst 1, 1) := by decide +kernel
theorem dX11_bestStep_23 : decode cX11_bestStep 23 = .ok (.invokevirtual 166, 3) := by decide +kernel
theorem dX11_bestStep_26 : decode cX11_bestStep 26 = .ok (.ifCond .eq 5, 3) := by decide +kernel
theorem dX11_bestStep_29 : decode cX11_bestStep 29 = .ok (.iconst 0, 1) := by decide +kernel
theorem dX11_bestStep_30 : decode cX11_bestStep 30 = .ok (.ireturn, 1) := by decide +kernel
theorem dX11_bestStep_31 : decode cX11_bestStep 31 = .ok (.iconst 0, 1) := by decide +kernel
theorem dX11_bestStep_32 : decode cX11_bestStep 32 = .ok (.istore_n 2, 1) := by decide +kernel
theorem dX11_bestStep_33 : decode cX11_bestStep 33 = .ok (.iconst (-1), 1) := by decide +kernel
theorem dX11_bestStep_34 : decode cX11_bestStep 34 = .ok (.istore_n 3, 1) := by decide +kernel
theorem dX11_bestStep_35 : decode cX11_bestStep 35 = .ok (.iconst 1, 1) := by decide +kernel
theorem dX11_bestStep_36 : decode cX11_bestStep 36 = .ok (.istore 4, 2) := by decide +kernel
theorem dX11_bestStep_38 : decode cX11_bestStep 38 = .ok (.iload 4, 2) := by decide +kernel
theorem dX11_bestStep_40 : decode cX11_bestStep 40 = .ok (.bipush 50, 2) := by decide +kernel
theorem dX11_bestStep_42 : decode cX11_bestStep 42 = .ok (.if_icmp .gt 33, 3) := by decide +kernel
theorem dX11_bestStep_45 : decode cX11_bestStep 45 = .ok (.aload_n 0, 1) := by decide +kernel
theorem dX11_bestStep_46 : decode cX11_bestStep 46 = .ok (.iload 4, 2) := by decide +kernel
theorem dX11_bestStep_48 : decode cX11_bestStep 48 = .ok (.iload_n 1, 1) := by decide +kernel
theorem dX11_bestStep_49 : decode cX11_bestStep 49 = .ok (.invokevirtual 317, 3) := by decide +kernel
theorem dX11_bestStep_52 : decode cX11_bestStep 52 = .ok (.istore 5, 2) := by decide +kernel
theorem dX11_bestStep_54 : decode cX11_bestStep 54 = .ok (.iload 5, 2) := by decide +kernel
theorem dX11_bestStep_56 : decode cX11_bestStep 56 = .ok (.iload_n 3, 1) := by decide +kernel
theorem dX11_bestStep_57 : decode cX11_bestStep 57 = .ok (.if_icmp .gt 6, 3) := by decide +kernel
theorem dX11_bestStep_60 : decode cX11_bestStep 60 = .ok (.goto 9, 3) := by decide +kernel
theorem dX11_bestStep_63 : decode cX11_bestStep 63 = .ok (.iload 5, 2) := by decide +kernel
theorem dX11_bestStep_65 : decode cX11_bestStep 65 = .ok (.istore_n 3, 1) := by decide +kernel
theorem dX11_bestStep_66 : decode cX11_bestStep 66 = .ok (.iload 4, 2) := by decide +kernel
theorem dX11_bestStep_68 : decode cX11_bestStep 68 = .ok (.istore_n 2, 1) := by decide +kernel
theorem dX11_bestStep_69 : decode cX11_bestStep 69 = .ok (.iinc 4 1, 3) := by decide +kernel
theorem dX11_bestStep_72 : decode cX11_bestStep 72 = .ok (.goto (-34), 3) := by decide +kernel
theorem dX11_bestStep_75 : decode cX11_bestStep 75 = .ok (.iload_n 2, 1) := by decide +kernel
theorem dX11_bestStep_76 : decode cX11_bestStep 76 = .ok (.ireturn, 1) := by decide +kernel
theorem dX11_coinError_0 : decode cX11_coinError 0 = .ok (.aload_n 0, 1) := by decide +kernel
theorem dX11_coinError_1 : decode cX11_coinError 1 = .ok (.iconst 0, 1) := by decide +kernel
theorem dX11_coinError_2 : decode cX11_coinError 2 = .ok (.putfield 54, 3) := by decide +kernel
theorem dX11_coinError_5 : decode cX11_coinError 5 = .ok (.aload_n 0, 1) := by decide +kernel
theorem dX11_coinError_6 : decode cX11_coinError 6 = .ok (.getfield 7, 3) := by decide +kernel
theorem dX11_coinError_9 : decode cX11_coinError 9 = .ok (.bipush 13, 2) := by decide +kernel
theorem dX11_coinError_11 : decode cX11_coinError 11 = .ok (.iaload, 1) := by decide +kernel
theorem dX11_coinError_12 : decode cX11_coinError 12 = .ok (.aload_n 0, 1) := by decide +kernel
theorem dX11_coinError_13 : decode cX11_coinError 13 = .ok (.getfield 7, 3) := by decide +kernel
theorem dX11_coinError_16 : decode cX11_coinError 16 = .ok (.bipush 14, 2) := by decide +kernel
theorem dX11_coinError_18 : decode cX11_coinError 18 = .ok (.iaload, 1) := by decide +kernel
theorem dX11_coinError_19 : decode cX11_coinError 19 = .ok (.iadd, 1) := by decide +kernel
theorem dX11_coinError_20 : decode cX11_coinError 20 = .ok (.istore_n 1, 1) := by decide +kernel
theorem dX11_coinError_21 : decode cX11_coinError 21 = .ok (.iconst 0, 1) := by decide +kernel
theorem dX11_coinError_22 : decode cX11_coinError 22 = .ok (.istore_n 2, 1) := by decide +kernel
theorem dX11_coinError_23 : decode cX11_coinError 23 = .ok (.iload_n 2, 1) := by decide +kernel
theorem dX11_coinError_24 : decode cX11_coinError 24 = .ok (.aload_n 0, 1) := by decide +kernel
theorem dX11_coinError_25 : decode cX11_coinError 25 = .ok (.getfield 7, 3) := by decide +kernel
theorem dX11_coinError_28 : decode cX11_coinError 28 = .ok (.bipush 6, 2) := by decide +kernel
theorem dX11_coinError_30 : decode cX11_coinError 30 = .ok (.iaload, 1) := by decide +kernel
theorem dX11_coinError_31 : decode cX11_coinError 31 = .ok (.if_icmp .ge 18, 3) := by decide +kernel
theorem dX11_coinError_34 : decode cX11_coinError 34 = .ok (.iload_n 1, 1) := by decide +kernel
theorem dX11_coinError_35 : decode cX11_coinError 35 = .ok (.aload_n 0, 1) := by decide +kernel
theorem dX11_coinError_36 : decode cX11_coinError 36 = .ok (.iload_n 2, 1) := by decide +kernel
theorem dX11_coinError_37 : decode cX11_coinError 37 = .ok (.iconst 0, 1) := by decide +kernel
theorem dX11_coinError_38 : decode cX11_coinError 38 = .ok (.invokevirtual 86, 3) := by decide +kernel
theorem dX11_coinError_41 : decode cX11_coinError 41 = .ok (.iadd, 1) := by decide +kernel
theorem dX11_coinError_42 : decode cX11_coinError 42 = .ok (.istore_n 1, 1) := by decide +kernel
theorem dX11_coinError_43 : decode cX11_coinError 43 = .ok (.iinc 2 1, 3) := by decide +kernel
theorem dX11_coinError_46 : decode cX11_coinError 46 = .ok (.goto (-23), 3) := by decide +kernel
theorem dX11_coinError_49 : decode cX11_coinError 49 = .ok (.aload_n 0, 1) := by decide +kernel
theorem dX11_coinError_50 : decode cX11_coinError 50 = .ok (.getfield 7, 3) := by decide +kernel
theorem dX11_coinError_53 : decode cX11_coinError 53 = .ok (.bipush 15, 2) := by decide +kernel
theorem dX11_coinError_55 : decode cX11_coinError 55 = .ok (.iaload, 1) := by decide +kernel
theorem dX11_coinError_56 : decode cX11_coinError 56 = .ok (.iload_n 1, 1) := by decide +kernel
theorem dX11_coinError_57 : decode cX11_coinError 57 = .ok (.isub, 1) := by decide +kernel
theorem dX11_coinError_58 : decode cX11_coinError 58 = .ok (.ireturn, 1) := by decide +kernel
theorem dX11_meanLength_0 : decode cX11_meanLength 0 = .ok (.aload_n 0, 1) := by decide +kernel
theorem dX11_meanLength_1 : decode cX11_meanLength 1 = .ok (.iconst 0, 1) := by decide +kernel
theorem dX11_meanLength_2 : decode cX11_meanLength 2 = .ok (.putfield 54, 3) := by decide +kernel
theorem dX11_meanLength_5 : decode cX11_meanLength 5 = .ok (.iconst 0, 1) := by decide +kernel
theorem dX11_meanLength_6 : decode cX11_meanLength 6 = .ok (.istore_n 1, 1) := by decide +kernel
theorem dX11_meanLength_7 : decode cX11_meanLength 7 = .ok (.iconst 0, 1) := by decide +kernel
theorem dX11_meanLength_8 : decode cX11_meanLength 8 = .ok (.istore_n 2, 1) := by decide +kernel
theorem dX11_meanLength_9 : decode cX11_meanLength 9 = .ok (.iconst 0, 1) := by decide +kernel
theorem dX11_meanLength_10 : decode cX11_meanLength 10 = .ok (.istore_n 3, 1) := by decide +kernel
theorem dX11_meanLength_11 : decode cX11_meanLength 11 = .ok (.iload_n 3, 1) := by decide +kernel
theorem dX11_meanLength_12 : decode cX11_meanLength 12 = .ok (.aload_n 0, 1) := by decide +kernel
theorem dX11_meanLength_13 : decode cX11_meanLength 13 = .ok (.getfield 7, 3) := by decide +kernel
theorem dX11_meanLength_16 : decode cX11_meanLength 16 = .ok (.bipush 7, 2) := by decide +kernel
theorem dX11_meanLength_18 : decode cX11_meanLength 18 = .ok (.iaload, 1) := by decide +kernel
theorem dX11_meanLength_19 : decode cX11_meanLength 19 = .ok (.if_icmp .ge 26, 3) := by decide +kernel
theorem dX11_meanLength_22 : decode cX11_meanLength 22 = .ok (.iload_n 1, 1) := by decide +kernel
theorem dX11_meanLength_23 : decode cX11_meanLength 23 = .ok (.aload_n 0, 1) := by decide +kernel
theorem dX11_meanLength_24 : decode cX11_meanLength 24 = .ok (.iload_n 3, 1) := by decide +kernel
theorem dX11_meanLength_25 : decode cX11_meanLength 25 = .ok (.iconst 0, 1) := by decide +kernel
theorem dX11_meanLength_26 : decode cX11_meanLength 26 = .ok (.invokevirtual 66, 3) := by decide +kernel
theorem dX11_meanLength_29 : decode cX11_meanLength 29 = .ok (.iadd, 1) := by decide +kernel
theorem dX11_meanLength_30 : decode cX11_meanLength 30 = .ok (.istore_n 1, 1) := by decide +kernel
theorem dX11_meanLength_31 : decode cX11_meanLength 31 = .ok (.iload_n 2, 1) := by decide +kernel
theorem dX11_meanLength_32 : decode cX11_meanLength 32 = .ok (.aload_n 0, 1) := by decide +kernel
theorem dX11_meanLength_33 : decode cX11_meanLength 33 = .ok (.iload_n 3, 1) := by decide +kernel
theorem dX11_meanLength_34 : decode cX11_meanLength 34 = .ok (.invokevirtual 89, 3) := by decide +kernel
theorem dX11_meanLength_37 : decode cX11_meanLength 37 = .ok (.iadd, 1) := by decide +kernel
theorem dX11_meanLength_38 : decode cX11_meanLength 38 = .ok (.istore_n 2, 1) := by decide +kernel
theorem dX11_meanLength_39 : decode cX11_meanLength 39 = .ok (.iinc 3 1, 3) := by decide +kernel
theorem dX11_meanLength_42 : decode cX11_meanLength 42 = .ok (.goto (-31), 3) := by decide +kernel
theorem dX11_meanLength_45 : decode cX11_meanLength 45 = .ok (.iload_n 1, 1) := by decide +kernel
theorem dX11_meanLength_46 : decode cX11_meanLength 46 = .ok (.ifCond .ne 5, 3) := by decide +kernel
theorem dX11_meanLength_49 : decode cX11_meanLength 49 = .ok (.dconst 0, 1) := by decide +kernel
theorem dX11_meanLength_50 : decode cX11_meanLength 50 = .ok (.dreturn, 1) := by decide +kernel
theorem dX11_meanLength_51 : decode cX11_meanLength 51 = .ok (.iload_n 2, 1) := by decide +kernel
theorem dX11_meanLength_52 : decode cX11_meanLength 52 = .ok (.i2d, 1) := by decide +kernel
theorem dX11_meanLength_53 : decode cX11_meanLength 53 = .ok (.iload_n 1, 1) := by decide +kernel
theorem dX11_meanLength_54 : decode cX11_meanLength 54 = .ok (.i2d, 1) := by decide +kernel
theorem dX11_meanLength_55 : decode cX11_meanLength 55 = .ok (.ddiv, 1) := by decide +kernel
theorem dX11_meanLength_56 : decode cX11_meanLength 56 = .ok (.dreturn, 1) := by decide +kernel
theorem dX11_soldShare_0 : decode cX11_soldShare 0 = .ok (.aload_n 0, 1) := by decide +kernel
theorem dX11_soldShare_1 : decode cX11_soldShare 1 = .ok (.iconst 0, 1) := by decide +kernel
theorem dX11_soldShare_2 : decode cX11_soldShare 2 = .ok (.putfield 54, 3) := by decide +kernel
theorem dX11_soldShare_5 : decode cX11_soldShare 5 = .ok (.aload_n 0, 1) := by decide +kernel
theorem dX11_soldShare_6 : decode cX11_soldShare 6 = .ok (.getfield 7, 3) := by decide +kernel
theorem dX11_soldShare_9 : decode cX11_soldShare 9 = .ok (.bipush 7, 2) := by decide +kernel
theorem dX11_soldShare_11 : decode cX11_soldShare 11 = .ok (.iaload, 1) := by decide +kernel
theorem dX11_soldShare_12 : decode cX11_soldShare 12 = .ok (.ifCond .ne 5, 3) := by decide +kernel
theorem dX11_soldShare_15 : decode cX11_soldShare 15 = .ok (.fconst 0, 1) := by decide +kernel
theorem dX11_soldShare_16 : decode cX11_soldShare 16 = .ok (.freturn, 1) := by decide +kernel
theorem dX11_soldShare_17 : decode cX11_soldShare 17 = .ok (.aload_n 0, 1) := by decide +kernel
theorem dX11_soldShare_18 : decode cX11_soldShare 18 = .ok (.iconst 2, 1) := by decide +kernel
theorem dX11_soldShare_19 : decode cX11_soldShare 19 = .ok (.invokevirtual 150, 3) := by decide +kernel
theorem dX11_soldShare_22 : decode cX11_soldShare 22 = .ok (.i2f, 1) := by decide +kernel
theorem dX11_soldShare_23 : decode cX11_soldShare 23 = .ok (.aload_n 0, 1) := by decide +kernel
theorem dX11_soldShare_24 : decode cX11_soldShare 24 = .ok (.getfield 7, 3) := by decide +kernel
theorem dX11_soldShare_27 : decode cX11_soldShare 27 = .ok (.bipush 7, 2) := by decide +kernel
theorem dX11_soldShare_29 : decode cX11_soldShare 29 = .ok (.iaload, 1) := by decide +kernel
theorem dX11_soldShare_30 : decode cX11_soldShare 30 = .ok (.i2f, 1) := by decide +kernel
theorem dX11_soldShare_31 : decode cX11_soldShare 31 = .ok (.fdiv, 1) := by decide +kernel
theorem dX11_soldShare_32 : decode cX11_soldShare 32 = .ok (.freturn, 1) := by decide +kernel
theorem dX11_emit_0 : decode cX11_emit 0 = .ok (.aload_n 0, 1) := by decide +kernel
theorem dX11_emit_1 : decode cX11_emit 1 = .ok (.getfield 31, 3) := by decide +kernel
theorem dX11_emit_4 : decode cX11_emit 4 = .ok (.aload_n 0, 1) := by decide +kernel
theorem dX11_emit_5 : decode cX11_emit 5 = .ok (.getfield 320, 3) := by decide +kernel
theorem dX11_emit_8 : decode cX11_emit 8 = .ok (.iload_n 1, 1) := by decide +kernel
theorem dX11_emit_9 : decode cX11_emit 9 = .ok (.i2b, 1) := by decide +kernel
theorem dX11_emit_10 : decode cX11_emit 10 = .ok (.bastore, 1) := by decide +kernel
theorem dX11_emit_11 : decode cX11_emit 11 = .ok (.aload_n 0, 1) := by decide +kernel
theorem dX11_emit_12 : decode cX11_emit 12 = .ok (.dup, 1) := by decide +kernel
theorem dX11_emit_13 : decode cX11_emit 13 = .ok (.getfield 320, 3) := by decide +kernel
theorem dX11_emit_16 : decode cX11_emit 16 = .ok (.iconst 1, 1) := by decide +kernel
theorem dX11_emit_17 : decode cX11_emit 17 = .ok (.iadd, 1) := by decide +kernel
theorem dX11_emit_18 : decode cX11_emit 18 = .ok (.putfield 320, 3) := by decide +kernel
theorem dX11_emit_21 : decode cX11_emit 21 = .ok (.return_, 1) := by decide +kernel
theorem dX11_emitNumber_0 : decode cX11_emitNumber 0 = .ok (.iconst 1, 1) := by decide +kernel
theorem dX11_emitNumber_1 : decode cX11_emitNumber 1 = .ok (.istore_n 2, 1) := by decide +kernel
theorem dX11_emitNumber_2 : decode cX11_emitNumber 2 = .ok (.iload_n 1, 1) := by decide +kernel
theorem dX11_emitNumber_3 : decode cX11_emitNumber 3 = .ok (.iload_n 2, 1) := by decide +kernel
theorem dX11_emitNumber_4 : decode cX11_emitNumber 4 = .ok (.idiv, 1) := by decide +kernel
theorem dX11_emitNumber_5 : decode cX11_emitNumber 5 = .ok (.bipush 10, 2) := by decide +kernel
theorem dX11_emitNumber_7 : decode cX11_emitNumber 7 = .ok (.if_icmp .lt 11, 3) := by decide +kernel
theorem dX11_emitNumber_10 : decode cX11_emitNumber 10 = .ok (.iload_n 2, 1) := by decide +kernel
theorem dX11_emitNumber_11 : decode cX11_emitNumber 11 = .ok (.bipush 10, 2) := by decide +kernel
theorem dX11_emitNumber_13 : decode cX11_emitNumber 13 = .ok (.imul, 1) := by decide +kernel
theorem dX11_emitNumber_14 : decode cX11_emitNumber 14 = .ok (.istore_n 2, 1) := by decide +kernel
theorem dX11_emitNumber_15 : decode cX11_emitNumber 15 = .ok (.goto (-13), 3) := by decide +kernel
theorem dX11_emitNumber_18 : decode cX11_emitNumber 18 = .ok (.iload_n 2, 1) := by decide +kernel
theorem dX11_emitNumber_19 : decode cX11_emitNumber 19 = .ok (.ifCond .le 24, 3) := by decide +kernel
theorem dX11_emitNumber_22 : decode cX11_emitNumber 22 = .ok (.aload_n 0, 1) := by decide +kernel
theorem dX11_emitNumber_23 : decode cX11_emitNumber 23 = .ok (.bipush 48, 2) := by decide +kernel
theorem dX11_emitNumber_25 : decode cX11_emitNumber 25 = .ok (.iload_n 1, 1) := by decide +kernel
theorem dX11_emitNumber_26 : decode cX11_emitNumber 26 = .ok (.iload_n 2, 1) := by decide +kernel
theorem dX11_emitNumber_27 : decode cX11_emitNumber 27 = .ok (.idiv, 1) := by decide +kernel
theorem dX11_emitNumber_28 : decode cX11_emitNumber 28 = .ok (.bipush 10, 2) := by decide +kernel
theorem dX11_emitNumber_30 : decode cX11_emitNumber 30 = .ok (.irem, 1) := by decide +kernel
theorem dX11_emitNumber_31 : decode cX11_emitNumber 31 = .ok (.iadd, 1) := by decide +kernel
theorem dX11_emitNumber_32 : decode cX11_emitNumber 32 = .ok (.invokevirtual 323, 3) := by decide +kernel
theorem dX11_emitNumber_35 : decode cX11_emitNumber 35 = .ok (.iload_n 2, 1) := by decide +kernel
theorem dX11_emitNumber_36 : decode cX11_emitNumber 36 = .ok (.bipush 10, 2) := by decide +kernel
theorem dX11_emitNumber_38 : decode cX11_emitNumber 38 = .ok (.idiv, 1) := by decide +kernel
theorem dX11_emitNumber_39 : decode cX11_emitNumber 39 = .ok (.istore_n 2, 1) := by decide +kernel
theorem dX11_emitNumber_40 : decode cX11_emitNumber 40 = .ok (.goto (-22), 3) := by decide +kernel
theorem dX11_emitNumber_43 : decode cX11_emitNumber 43 = .ok (.return_, 1) := by decide +kernel
theorem dX11_writeBarrel_0 : decode cX11_writeBarrel 0 = .ok (.aload_n 0, 1) := by decide +kernel
theorem dX11_writeBarrel_1 : decode cX11_writeBarrel 1 = .ok (.iload_n 1, 1) := by decide +kernel
theorem dX11_writeBarrel_2 : decode cX11_writeBarrel 2 = .ok (.invokevirtual 308, 3) := by decide +kernel
theorem dX11_writeBarrel_5 : decode cX11_writeBarrel 5 = .ok (.ifCond .eq 5, 3) := by decide +kernel
theorem dX11_writeBarrel_8 : decode cX11_writeBarrel 8 = .ok (.iconst 0, 1) := by decide +kernel
theorem dX11_writeBarrel_9 : decode cX11_writeBarrel 9 = .ok (.ireturn, 1) := by decide +kernel
theorem dX11_writeBarrel_10 : decode cX11_writeBarrel 10 = .ok (.aload_n 0, 1) := by decide +kernel
theorem dX11_writeBarrel_11 : decode cX11_writeBarrel 11 = .ok (.iconst 0, 1) := by decide +kernel
theorem dX11_writeBarrel_12 : decode cX11_writeBarrel 12 = .ok (.putfield 320, 3) := by decide +kernel
theorem dX11_writeBarrel_15 : decode cX11_writeBarrel 15 = .ok (.iconst 0, 1) := by decide +kernel
theorem dX11_writeBarrel_16 : decode cX11_writeBarrel 16 = .ok (.istore_n 2, 1) := by decide +kernel
theorem dX11_writeBarrel_17 : decode cX11_writeBarrel 17 = .ok (.iload_n 2, 1) := by decide +kernel
theorem dX11_writeBarrel_18 : decode cX11_writeBarrel 18 = .ok (.aload_n 0, 1) := by decide +kernel
theorem dX11_writeBarrel_19 : decode cX11_writeBarrel 19 = .ok (.iload_n 1, 1) := by decide +kernel
theorem dX11_writeBarrel_20 : decode cX11_writeBarrel 20 = .ok (.iconst 0, 1) := by decide +kernel
theorem dX11_writeBarrel_21 : decode cX11_writeBarrel 21 = .ok (.invokevirtual 66, 3) := by decide +kernel
theorem dX11_writeBarrel_24 : decode cX11_writeBarrel 24 = .ok (.if_icmp .ge 29, 3) := by decide +kernel
theorem dX11_writeBarrel_27 : decode cX11_writeBarrel 27 = .ok (.iload_n 2, 1) := by decide +kernel
theorem dX11_writeBarrel_28 : decode cX11_writeBarrel 28 = .ok (.ifCond .le 9, 3) := by decide +kernel
theorem dX11_writeBarrel_31 : decode cX11_writeBarrel 31 = .ok (.aload_n 0, 1) := by decide +kernel
theorem dX11_writeBarrel_32 : decode cX11_writeBarrel 32 = .ok (.bipush 44, 2) := by decide +kernel
theorem dX11_writeBarrel_34 : decode cX11_writeBarrel 34 = .ok (.invokevirtual 323, 3) := by decide +kernel
theorem dX11_writeBarrel_37 : decode cX11_writeBarrel 37 = .ok (.aload_n 0, 1) := by decide +kernel
theorem dX11_writeBarrel_38 : decode cX11_writeBarrel 38 = .ok (.aload_n 0, 1) := by decide +kernel
theorem dX11_writeBarrel_39 : decode cX11_writeBarrel 39 = .ok (.iload_n 1, 1) := by decide +kernel
theorem dX11_writeBarrel_40 : decode cX11_writeBarrel 40 = .ok (.iload_n 2, 1) := by decide +kernel
theorem dX11_writeBarrel_41 : decode cX11_writeBarrel 41 = .ok (.invokevirtual 80, 3) := by decide +kernel
theorem dX11_writeBarrel_44 : decode cX11_writeBarrel 44 = .ok (.invokevirtual 326, 3) := by decide +kernel
theorem dX11_writeBarrel_47 : decode cX11_writeBarrel 47 = .ok (.iinc 2 1, 3) := by decide +kernel
theorem dX11_writeBarrel_50 : decode cX11_writeBarrel 50 = .ok (.goto (-33), 3) := by decide +kernel
theorem dX11_writeBarrel_53 : decode cX11_writeBarrel 53 = .ok (.aload_n 0, 1) := by decide +kernel
theorem dX11_writeBarrel_54 : decode cX11_writeBarrel 54 = .ok (.iload_n 1, 1) := by decide +kernel
theorem dX11_writeBarrel_55 : decode cX11_writeBarrel 55 = .ok (.bipush 12, 2) := by decide +kernel
theorem dX11_writeBarrel_57 : decode cX11_writeBarrel 57 = .ok (.invokevirtual 66, 3) := by decide +kernel
theorem dX11_writeBarrel_60 : decode cX11_writeBarrel 60 = .ok (.tableswitch 66 1 3 #[28, 37, 57], 28) := by decide +kernel
theorem dX11_writeBarrel_88 : decode cX11_writeBarrel 88 = .ok (.aload_n 0, 1) := by decide +kernel
theorem dX11_writeBarrel_89 : decode cX11_writeBarrel 89 = .ok (.bipush 63, 2) := by decide +kernel
theorem dX11_writeBarrel_91 : decode cX11_writeBarrel 91 = .ok (.invokevirtual 323, 3) := by decide +kernel
theorem dX11_writeBarrel_94 : decode cX11_writeBarrel 94 = .ok (.goto 32, 3) := by decide +kernel
theorem dX11_writeBarrel_97 : decode cX11_writeBarrel 97 = .ok (.aload_n 0, 1) := by decide +kernel
theorem dX11_writeBarrel_98 : decode cX11_writeBarrel 98 = .ok (.bipush 61, 2) := by decide +kernel
theorem dX11_writeBarrel_100 : decode cX11_writeBarrel 100 = .ok (.invokevirtual 323, 3) := by decide +kernel
theorem dX11_writeBarrel_103 : decode cX11_writeBarrel 103 = .ok (.aload_n 0, 1) := by decide +kernel
theorem dX11_writeBarrel_104 : decode cX11_writeBarrel 104 = .ok (.aload_n 0, 1) := by decide +kernel
theorem dX11_writeBarrel_105 : decode cX11_writeBarrel 105 = .ok (.iload_n 1, 1) := by decide +kernel
theorem dX11_writeBarrel_106 : decode cX11_writeBarrel 106 = .ok (.bipush 14, 2) := by decide +kernel
theorem dX11_writeBarrel_108 : decode cX11_writeBarrel 108 = .ok (.invokevirtual 66, 3) := by decide +kernel
theorem dX11_writeBarrel_111 : decode cX11_writeBarrel 111 = .ok (.invokevirtual 326, 3) := by decide +kernel
theorem dX11_writeBarrel_114 : decode cX11_writeBarrel 114 = .ok (.goto 12, 3) := by decide +kernel
theorem dX11_writeBarrel_117 : decode cX11_writeBarrel 117 = .ok (.aload_n 0, 1) := by decide +kernel
theorem dX11_writeBarrel_118 : decode cX11_writeBarrel 118 = .ok (.bipush 120, 2) := by decide +kernel
theorem dX11_writeBarrel_120 : decode cX11_writeBarrel 120 = .ok (.invokevirtual 323, 3) := by decide +kernel
theorem dX11_writeBarrel_123 : decode cX11_writeBarrel 123 = .ok (.goto 3, 3) := by decide +kernel
theorem dX11_writeBarrel_126 : decode cX11_writeBarrel 126 = .ok (.aload_n 0, 1) := by decide +kernel
theorem dX11_writeBarrel_127 : decode cX11_writeBarrel 127 = .ok (.getfield 320, 3) := by decide +kernel
theorem dX11_writeBarrel_130 : decode cX11_writeBarrel 130 = .ok (.ireturn, 1) := by decide +kernel
theorem dX11_writeQueue_0 : decode cX11_writeQueue 0 = .ok (.aload_n 0, 1) := by decide +kernel
theorem dX11_writeQueue_1 : decode cX11_writeQueue 1 = .ok (.iconst 0, 1) := by decide +kernel
theorem dX11_writeQueue_2 : decode cX11_writeQueue 2 = .ok (.putfield 54, 3) := by decide +kernel
theorem dX11_writeQueue_5 : decode cX11_writeQueue 5 = .ok (.aload_n 0, 1) := by decide +kernel
theorem dX11_writeQueue_6 : decode cX11_writeQueue 6 = .ok (.iconst 0, 1) := by decide +kernel
theorem dX11_writeQueue_7 : decode cX11_writeQueue 7 = .ok (.putfield 320, 3) := by decide +kernel
theorem dX11_writeQueue_10 : decode cX11_writeQueue 10 = .ok (.iconst 0, 1) := by decide +kernel
theorem dX11_writeQueue_11 : decode cX11_writeQueue 11 = .ok (.istore_n 1, 1) := by decide +kernel
theorem dX11_writeQueue_12 : decode cX11_writeQueue 12 = .ok (.iload_n 1, 1) := by decide +kernel
theorem dX11_writeQueue_13 : decode cX11_writeQueue 13 = .ok (.aload_n 0, 1) := by decide +kernel
theorem dX11_writeQueue_14 : decode cX11_writeQueue 14 = .ok (.getfield 7, 3) := by decide +kernel
theorem dX11_writeQueue_17 : decode cX11_writeQueue 17 = .ok (.bipush 12, 2) := by decide +kernel
theorem dX11_writeQueue_19 : decode cX11_writeQueue 19 = .ok (.iaload, 1) := by decide +kernel
theorem dX11_writeQueue_20 : decode cX11_writeQueue 20 = .ok (.if_icmp .ge 32, 3) := by decide +kernel
theorem dX11_writeQueue_23 : decode cX11_writeQueue 23 = .ok (.iload_n 1, 1) := by decide +kernel
theorem dX11_writeQueue_24 : decode cX11_writeQueue 24 = .ok (.ifCond .le 9, 3) := by decide +kernel
theorem dX11_writeQueue_27 : decode cX11_writeQueue 27 = .ok (.aload_n 0, 1) := by decide +kernel
theorem dX11_writeQueue_28 : decode cX11_writeQueue 28 = .ok (.bipush 44, 2) := by decide +kernel
theorem dX11_writeQueue_30 : decode cX11_writeQueue 30 = .ok (.invokevirtual 323, 3) := by decide +kernel
theorem dX11_writeQueue_33 : decode cX11_writeQueue 33 = .ok (.aload_n 0, 1) := by decide +kernel
theorem dX11_writeQueue_34 : decode cX11_writeQueue 34 = .ok (.aload_n 0, 1) := by decide +kernel
theorem dX11_writeQueue_35 : decode cX11_writeQueue 35 = .ok (.getfield 7, 3) := by decide +kernel
theorem dX11_writeQueue_38 : decode cX11_writeQueue 38 = .ok (.bipush 16, 2) := by decide +kernel
theorem dX11_writeQueue_40 : decode cX11_writeQueue 40 = .ok (.iload_n 1, 1) := by decide +kernel
theorem dX11_writeQueue_41 : decode cX11_writeQueue 41 = .ok (.iadd, 1) := by decide +kernel
theorem dX11_writeQueue_42 : decode cX11_writeQueue 42 = .ok (.iaload, 1) := by decide +kernel
theorem dX11_writeQueue_43 : decode cX11_writeQueue 43 = .ok (.invokevirtual 326, 3) := by decide +kernel
theorem dX11_writeQueue_46 : decode cX11_writeQueue 46 = .ok (.iinc 1 1, 3) := by decide +kernel
theorem dX11_writeQueue_49 : decode cX11_writeQueue 49 = .ok (.goto (-37), 3) := by decide +kernel
theorem dX11_writeQueue_52 : decode cX11_writeQueue 52 = .ok (.aload_n 0, 1) := by decide +kernel
theorem dX11_writeQueue_53 : decode cX11_writeQueue 53 = .ok (.getfield 320, 3) := by decide +kernel
theorem dX11_writeQueue_56 : decode cX11_writeQueue 56 = .ok (.ireturn, 1) := by decide +kernel
theorem dX11_outputByte_0 : decode cX11_outputByte 0 = .ok (.aload_n 0, 1) := by decide +kernel
theorem dX11_outputByte_1 : decode cX11_outputByte 1 = .ok (.iconst 0, 1) := by decide +kernel
theorem dX11_outputByte_2 : decode cX11_outputByte 2 = .ok (.putfield 54, 3) := by decide +kernel
theorem dX11_outputByte_5 : decode cX11_outputByte 5 = .ok (.iload_n 1, 1) := by decide +kernel
theorem dX11_outputByte_6 : decode cX11_outputByte 6 = .ok (.ifCond .lt 20, 3) := by decide +kernel
theorem dX11_outputByte_9 : decode cX11_outputByte 9 = .ok (.iload_n 1, 1) := by decide +kernel
theorem dX11_outputByte_10 : decode cX11_outputByte 10 = .ok (.aload_n 0, 1) := by decide +kernel
theorem dX11_outputByte_11 : decode cX11_outputByte 11 = .ok (.getfield 320, 3) := by decide +kernel
theorem dX11_outputByte_14 : decode cX11_outputByte 14 = .ok (.if_icmp .ge 12, 3) := by decide +kernel
theorem dX11_outputByte_17 : decode cX11_outputByte 17 = .ok (.aload_n 0, 1) := by decide +kernel
theorem dX11_outputByte_18 : decode cX11_outputByte 18 = .ok (.getfield 31, 3) := by decide +kernel
theorem dX11_outputByte_21 : decode cX11_outputByte 21 = .ok (.iload_n 1, 1) := by decide +kernel
theorem dX11_outputByte_22 : decode cX11_outputByte 22 = .ok (.baload, 1) := by decide +kernel
theorem dX11_outputByte_23 : decode cX11_outputByte 23 = .ok (.goto 4, 3) := by decide +kernel
theorem dX11_outputByte_26 : decode cX11_outputByte 26 = .ok (.iconst (-1), 1) := by decide +kernel
theorem dX11_outputByte_27 : decode cX11_outputByte 27 = .ok (.ireturn, 1) := by decide +kernel
