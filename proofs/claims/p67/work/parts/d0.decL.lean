theorem dL_pick_0 : decode cL_pick 0 = .ok (.aload_n 0, 1) := by decide +kernel
theorem dL_pick_1 : decode cL_pick 1 = .ok (.arraylength, 1) := by decide +kernel
theorem dL_pick_2 : decode cL_pick 2 = .ok (.ifCond .ne 9, 3) := by decide +kernel
theorem dL_pick_5 : decode cL_pick 5 = .ok (.iload_n 1, 1) := by decide +kernel
theorem dL_pick_6 : decode cL_pick 6 = .ok (.iload_n 2, 1) := by decide +kernel
theorem dL_pick_7 : decode cL_pick 7 = .ok (.irem, 1) := by decide +kernel
theorem dL_pick_8 : decode cL_pick 8 = .ok (.goto 25, 3) := by decide +kernel
theorem dL_pick_11 : decode cL_pick 11 = .ok (.aload_n 0, 1) := by decide +kernel
theorem dL_pick_12 : decode cL_pick 12 = .ok (.iload_n 1, 1) := by decide +kernel
theorem dL_pick_13 : decode cL_pick 13 = .ok (.aload_n 0, 1) := by decide +kernel
theorem dL_pick_14 : decode cL_pick 14 = .ok (.arraylength, 1) := by decide +kernel
theorem dL_pick_15 : decode cL_pick 15 = .ok (.irem, 1) := by decide +kernel
theorem dL_pick_16 : decode cL_pick 16 = .ok (.iaload, 1) := by decide +kernel
theorem dL_pick_17 : decode cL_pick 17 = .ok (.iload_n 1, 1) := by decide +kernel
theorem dL_pick_18 : decode cL_pick 18 = .ok (.aload_n 0, 1) := by decide +kernel
theorem dL_pick_19 : decode cL_pick 19 = .ok (.arraylength, 1) := by decide +kernel
theorem dL_pick_20 : decode cL_pick 20 = .ok (.idiv, 1) := by decide +kernel
theorem dL_pick_21 : decode cL_pick 21 = .ok (.bipush 9, 2) := by decide +kernel
theorem dL_pick_23 : decode cL_pick 23 = .ok (.irem, 1) := by decide +kernel
theorem dL_pick_24 : decode cL_pick 24 = .ok (.iconst 3, 1) := by decide +kernel
theorem dL_pick_25 : decode cL_pick 25 = .ok (.imul, 1) := by decide +kernel
theorem dL_pick_26 : decode cL_pick 26 = .ok (.ishr, 1) := by decide +kernel
theorem dL_pick_27 : decode cL_pick 27 = .ok (.sipush 4095, 3) := by decide +kernel
theorem dL_pick_30 : decode cL_pick 30 = .ok (.iand, 1) := by decide +kernel
theorem dL_pick_31 : decode cL_pick 31 = .ok (.iload_n 2, 1) := by decide +kernel
theorem dL_pick_32 : decode cL_pick 32 = .ok (.irem, 1) := by decide +kernel
theorem dL_pick_33 : decode cL_pick 33 = .ok (.ireturn, 1) := by decide +kernel
theorem dL_open_0 : decode cL_open 0 = .ok (.iload_n 1, 1) := by decide +kernel
theorem dL_open_1 : decode cL_open 1 = .ok (.aload_n 0, 1) := by decide +kernel
theorem dL_open_2 : decode cL_open 2 = .ok (.iconst 0, 1) := by decide +kernel
theorem dL_open_3 : decode cL_open 3 = .ok (.iaload, 1) := by decide +kernel
theorem dL_open_4 : decode cL_open 4 = .ok (.irem, 1) := by decide +kernel
theorem dL_open_5 : decode cL_open 5 = .ok (.aload_n 0, 1) := by decide +kernel
theorem dL_open_6 : decode cL_open 6 = .ok (.iconst 1, 1) := by decide +kernel
theorem dL_open_7 : decode cL_open 7 = .ok (.iaload, 1) := by decide +kernel
theorem dL_open_8 : decode cL_open 8 = .ok (.if_icmp .ge 7, 3) := by decide +kernel
theorem dL_open_11 : decode cL_open 11 = .ok (.iconst 1, 1) := by decide +kernel
theorem dL_open_12 : decode cL_open 12 = .ok (.goto 4, 3) := by decide +kernel
theorem dL_open_15 : decode cL_open 15 = .ok (.iconst 0, 1) := by decide +kernel
theorem dL_open_16 : decode cL_open 16 = .ok (.ireturn, 1) := by decide +kernel
theorem dL_cost_0 : decode cL_cost 0 = .ok (.iload_n 1, 1) := by decide +kernel
theorem dL_cost_1 : decode cL_cost 1 = .ok (.iload_n 1, 1) := by decide +kernel
theorem dL_cost_2 : decode cL_cost 2 = .ok (.aload_n 0, 1) := by decide +kernel
theorem dL_cost_3 : decode cL_cost 3 = .ok (.iconst 3, 1) := by decide +kernel
theorem dL_cost_4 : decode cL_cost 4 = .ok (.iaload, 1) := by decide +kernel
theorem dL_cost_5 : decode cL_cost 5 = .ok (.imul, 1) := by decide +kernel
theorem dL_cost_6 : decode cL_cost 6 = .ok (.bipush 100, 2) := by decide +kernel
theorem dL_cost_8 : decode cL_cost 8 = .ok (.idiv, 1) := by decide +kernel
theorem dL_cost_9 : decode cL_cost 9 = .ok (.iadd, 1) := by decide +kernel
theorem dL_cost_10 : decode cL_cost 10 = .ok (.ireturn, 1) := by decide +kernel
theorem dL_worth_0 : decode cL_worth 0 = .ok (.aload_n 0, 1) := by decide +kernel
theorem dL_worth_1 : decode cL_worth 1 = .ok (.iload_n 2, 1) := by decide +kernel
theorem dL_worth_2 : decode cL_worth 2 = .ok (.invokevirtual 79, 3) := by decide +kernel
theorem dL_worth_5 : decode cL_worth 5 = .ok (.istore_n 3, 1) := by decide +kernel
theorem dL_worth_6 : decode cL_worth 6 = .ok (.iconst 0, 1) := by decide +kernel
theorem dL_worth_7 : decode cL_worth 7 = .ok (.istore 4, 2) := by decide +kernel
theorem dL_worth_9 : decode cL_worth 9 = .ok (.iconst 0, 1) := by decide +kernel
theorem dL_worth_10 : decode cL_worth 10 = .ok (.istore 5, 2) := by decide +kernel
theorem dL_worth_12 : decode cL_worth 12 = .ok (.iconst 0, 1) := by decide +kernel
theorem dL_worth_13 : decode cL_worth 13 = .ok (.istore 6, 2) := by decide +kernel
theorem dL_worth_15 : decode cL_worth 15 = .ok (.iconst 0, 1) := by decide +kernel
theorem dL_worth_16 : decode cL_worth 16 = .ok (.istore 7, 2) := by decide +kernel
theorem dL_worth_18 : decode cL_worth 18 = .ok (.iload 7, 2) := by decide +kernel
theorem dL_worth_20 : decode cL_worth 20 = .ok (.iload_n 3, 1) := by decide +kernel
theorem dL_worth_21 : decode cL_worth 21 = .ok (.if_icmp .ge 50, 3) := by decide +kernel
theorem dL_worth_24 : decode cL_worth 24 = .ok (.iload 4, 2) := by decide +kernel
theorem dL_worth_26 : decode cL_worth 26 = .ok (.aload_n 0, 1) := by decide +kernel
theorem dL_worth_27 : decode cL_worth 27 = .ok (.iload_n 2, 1) := by decide +kernel
theorem dL_worth_28 : decode cL_worth 28 = .ok (.iload 7, 2) := by decide +kernel
theorem dL_worth_30 : decode cL_worth 30 = .ok (.invokevirtual 82, 3) := by decide +kernel
theorem dL_worth_33 : decode cL_worth 33 = .ok (.iadd, 1) := by decide +kernel
theorem dL_worth_34 : decode cL_worth 34 = .ok (.istore 4, 2) := by decide +kernel
theorem dL_worth_36 : decode cL_worth 36 = .ok (.iload 5, 2) := by decide +kernel
theorem dL_worth_38 : decode cL_worth 38 = .ok (.aload_n 0, 1) := by decide +kernel
theorem dL_worth_39 : decode cL_worth 39 = .ok (.iload_n 2, 1) := by decide +kernel
theorem dL_worth_40 : decode cL_worth 40 = .ok (.iload 7, 2) := by decide +kernel
theorem dL_worth_42 : decode cL_worth 42 = .ok (.invokevirtual 82, 3) := by decide +kernel
theorem dL_worth_45 : decode cL_worth 45 = .ok (.invokestatic 85, 3) := by decide +kernel
theorem dL_worth_48 : decode cL_worth 48 = .ok (.istore 5, 2) := by decide +kernel
theorem dL_worth_50 : decode cL_worth 50 = .ok (.aload_n 0, 1) := by decide +kernel
theorem dL_worth_51 : decode cL_worth 51 = .ok (.iload_n 2, 1) := by decide +kernel
theorem dL_worth_52 : decode cL_worth 52 = .ok (.iload 7, 2) := by decide +kernel
theorem dL_worth_54 : decode cL_worth 54 = .ok (.invokevirtual 82, 3) := by decide +kernel
theorem dL_worth_57 : decode cL_worth 57 = .ok (.bipush 60, 2) := by decide +kernel
theorem dL_worth_59 : decode cL_worth 59 = .ok (.if_icmp .lt 6, 3) := by decide +kernel
theorem dL_worth_62 : decode cL_worth 62 = .ok (.iinc 6 1, 3) := by decide +kernel
theorem dL_worth_65 : decode cL_worth 65 = .ok (.iinc 7 1, 3) := by decide +kernel
theorem dL_worth_68 : decode cL_worth 68 = .ok (.goto (-50), 3) := by decide +kernel
theorem dL_worth_71 : decode cL_worth 71 = .ok (.aload_n 0, 1) := by decide +kernel
theorem dL_worth_72 : decode cL_worth 72 = .ok (.iload_n 1, 1) := by decide +kernel
theorem dL_worth_73 : decode cL_worth 73 = .ok (.invokevirtual 90, 3) := by decide +kernel
theorem dL_worth_76 : decode cL_worth 76 = .ok (.istore 7, 2) := by decide +kernel
theorem dL_worth_78 : decode cL_worth 78 = .ok (.aload_n 0, 1) := by decide +kernel
theorem dL_worth_79 : decode cL_worth 79 = .ok (.iload_n 1, 1) := by decide +kernel
theorem dL_worth_80 : decode cL_worth 80 = .ok (.invokevirtual 93, 3) := by decide +kernel
theorem dL_worth_83 : decode cL_worth 83 = .ok (.istore 8, 2) := by decide +kernel
theorem dL_worth_85 : decode cL_worth 85 = .ok (.iload 8, 2) := by decide +kernel
theorem dL_worth_87 : decode cL_worth 87 = .ok (.iconst 1, 1) := by decide +kernel
theorem dL_worth_88 : decode cL_worth 88 = .ok (.if_icmp .ne 16, 3) := by decide +kernel
theorem dL_worth_91 : decode cL_worth 91 = .ok (.iload 7, 2) := by decide +kernel
theorem dL_worth_93 : decode cL_worth 93 = .ok (.iload 4, 2) := by decide +kernel
theorem dL_worth_95 : decode cL_worth 95 = .ok (.imul, 1) := by decide +kernel
theorem dL_worth_96 : decode cL_worth 96 = .ok (.i2d, 1) := by decide +kernel
theorem dL_worth_97 : decode cL_worth 97 = .ok (.ldc2_w 96, 3) := by decide +kernel
theorem dL_worth_100 : decode cL_worth 100 = .ok (.ddiv, 1) := by decide +kernel
theorem dL_worth_101 : decode cL_worth 101 = .ok (.goto 62, 3) := by decide +kernel
theorem dL_worth_104 : decode cL_worth 104 = .ok (.iload 8, 2) := by decide +kernel
theorem dL_worth_106 : decode cL_worth 106 = .ok (.iconst 2, 1) := by decide +kernel
theorem dL_worth_107 : decode cL_worth 107 = .ok (.if_icmp .ne 15, 3) := by decide +kernel
theorem dL_worth_110 : decode cL_worth 110 = .ok (.iload 7, 2) := by decide +kernel
theorem dL_worth_112 : decode cL_worth 112 = .ok (.iload_n 3, 1) := by decide +kernel
theorem dL_worth_113 : decode cL_worth 113 = .ok (.imul, 1) := by decide +kernel
theorem dL_worth_114 : decode cL_worth 114 = .ok (.i2d, 1) := by decide +kernel
theorem dL_worth_115 : decode cL_worth 115 = .ok (.ldc2_w 98, 3) := by decide +kernel
theorem dL_worth_118 : decode cL_worth 118 = .ok (.ddiv, 1) := by decide +kernel
theorem dL_worth_119 : decode cL_worth 119 = .ok (.goto 44, 3) := by decide +kernel
theorem dL_worth_122 : decode cL_worth 122 = .ok (.iload 8, 2) := by decide +kernel
theorem dL_worth_124 : decode cL_worth 124 = .ok (.iconst 3, 1) := by decide +kernel
theorem dL_worth_125 : decode cL_worth 125 = .ok (.if_icmp .ne 18, 3) := by decide +kernel
theorem dL_worth_128 : decode cL_worth 128 = .ok (.iload 7, 2) := by decide +kernel
theorem dL_worth_130 : decode cL_worth 130 = .ok (.iload 5, 2) := by decide +kernel
theorem dL_worth_132 : decode cL_worth 132 = .ok (.imul, 1) := by decide +kernel
theorem dL_worth_133 : decode cL_worth 133 = .ok (.iload_n 3, 1) := by decide +kernel
theorem dL_worth_134 : decode cL_worth 134 = .ok (.imul, 1) := by decide +kernel
theorem dL_worth_135 : decode cL_worth 135 = .ok (.i2d, 1) := by decide +kernel
theorem dL_worth_136 : decode cL_worth 136 = .ok (.ldc2_w 96, 3) := by decide +kernel
theorem dL_worth_139 : decode cL_worth 139 = .ok (.ddiv, 1) := by decide +kernel
theorem dL_worth_140 : decode cL_worth 140 = .ok (.goto 23, 3) := by decide +kernel
theorem dL_worth_143 : decode cL_worth 143 = .ok (.iload 8, 2) := by decide +kernel
theorem dL_worth_145 : decode cL_worth 145 = .ok (.iconst 4, 1) := by decide +kernel
theorem dL_worth_146 : decode cL_worth 146 = .ok (.if_icmp .ne 16, 3) := by decide +kernel
theorem dL_worth_149 : decode cL_worth 149 = .ok (.iload 7, 2) := by decide +kernel
theorem dL_worth_151 : decode cL_worth 151 = .ok (.iload 6, 2) := by decide +kernel
theorem dL_worth_153 : decode cL_worth 153 = .ok (.imul, 1) := by decide +kernel
theorem dL_worth_154 : decode cL_worth 154 = .ok (.i2d, 1) := by decide +kernel
theorem dL_worth_155 : decode cL_worth 155 = .ok (.ldc2_w 100, 3) := by decide +kernel
theorem dL_worth_158 : decode cL_worth 158 = .ok (.ddiv, 1) := by decide +kernel
theorem dL_worth_159 : decode cL_worth 159 = .ok (.goto 4, 3) := by decide +kernel
theorem dL_worth_162 : decode cL_worth 162 = .ok (.dconst 0, 1) := by decide +kernel
theorem dL_worth_163 : decode cL_worth 163 = .ok (.dreturn, 1) := by decide +kernel
theorem dL_reason_0 : decode cL_reason 0 = .ok (.aload_n 1, 1) := by decide +kernel
theorem dL_reason_1 : decode cL_reason 1 = .ok (.aload_n 0, 1) := by decide +kernel
theorem dL_reason_2 : decode cL_reason 2 = .ok (.invokevirtual 69, 3) := by decide +kernel
theorem dL_reason_5 : decode cL_reason 5 = .ok (.invokestatic 102, 3) := by decide +kernel
theorem dL_reason_8 : decode cL_reason 8 = .ok (.ifCond .ne 5, 3) := by decide +kernel
theorem dL_reason_11 : decode cL_reason 11 = .ok (.iconst 1, 1) := by decide +kernel
theorem dL_reason_12 : decode cL_reason 12 = .ok (.ireturn, 1) := by decide +kernel
theorem dL_reason_13 : decode cL_reason 13 = .ok (.aload_n 0, 1) := by decide +kernel
theorem dL_reason_14 : decode cL_reason 14 = .ok (.invokevirtual 72, 3) := by decide +kernel
theorem dL_reason_17 : decode cL_reason 17 = .ok (.ifCond .ge 5, 3) := by decide +kernel
theorem dL_reason_20 : decode cL_reason 20 = .ok (.iconst 2, 1) := by decide +kernel
theorem dL_reason_21 : decode cL_reason 21 = .ok (.ireturn, 1) := by decide +kernel
theorem dL_reason_22 : decode cL_reason 22 = .ok (.aload_n 0, 1) := by decide +kernel
theorem dL_reason_23 : decode cL_reason 23 = .ok (.invokevirtual 106, 3) := by decide +kernel
theorem dL_reason_26 : decode cL_reason 26 = .ok (.iload_n 2, 1) := by decide +kernel
theorem dL_reason_27 : decode cL_reason 27 = .ok (.if_icmp .ne 5, 3) := by decide +kernel
theorem dL_reason_30 : decode cL_reason 30 = .ok (.iconst 3, 1) := by decide +kernel
theorem dL_reason_31 : decode cL_reason 31 = .ok (.ireturn, 1) := by decide +kernel
theorem dL_reason_32 : decode cL_reason 32 = .ok (.aload_n 0, 1) := by decide +kernel
theorem dL_reason_33 : decode cL_reason 33 = .ok (.invokevirtual 106, 3) := by decide +kernel
theorem dL_reason_36 : decode cL_reason 36 = .ok (.ifCond .ge 14, 3) := by decide +kernel
theorem dL_reason_39 : decode cL_reason 39 = .ok (.aload_n 0, 1) := by decide +kernel
theorem dL_reason_40 : decode cL_reason 40 = .ok (.aload_n 0, 1) := by decide +kernel
theorem dL_reason_41 : decode cL_reason 41 = .ok (.invokevirtual 72, 3) := by decide +kernel
theorem dL_reason_44 : decode cL_reason 44 = .ok (.invokevirtual 109, 3) := by decide +kernel
theorem dL_reason_47 : decode cL_reason 47 = .ok (.goto 12, 3) := by decide +kernel
theorem dL_reason_50 : decode cL_reason 50 = .ok (.aload_n 0, 1) := by decide +kernel
theorem dL_reason_51 : decode cL_reason 51 = .ok (.invokevirtual 112, 3) := by decide +kernel
theorem dL_reason_54 : decode cL_reason 54 = .ok (.aload_n 0, 1) := by decide +kernel
theorem dL_reason_55 : decode cL_reason 55 = .ok (.invokevirtual 115, 3) := by decide +kernel
theorem dL_reason_58 : decode cL_reason 58 = .ok (.iadd, 1) := by decide +kernel
theorem dL_reason_59 : decode cL_reason 59 = .ok (.istore_n 3, 1) := by decide +kernel
theorem dL_reason_60 : decode cL_reason 60 = .ok (.aload_n 0, 1) := by decide +kernel
theorem dL_reason_61 : decode cL_reason 61 = .ok (.iload_n 2, 1) := by decide +kernel
theorem dL_reason_62 : decode cL_reason 62 = .ok (.invokevirtual 118, 3) := by decide +kernel
theorem dL_reason_65 : decode cL_reason 65 = .ok (.aload_n 1, 1) := by decide +kernel
theorem dL_reason_66 : decode cL_reason 66 = .ok (.iload_n 3, 1) := by decide +kernel
theorem dL_reason_67 : decode cL_reason 67 = .ok (.invokestatic 121, 3) := by decide +kernel
theorem dL_reason_70 : decode cL_reason 70 = .ok (.if_icmp .ge 7, 3) := by decide +kernel
theorem dL_reason_73 : decode cL_reason 73 = .ok (.iconst 4, 1) := by decide +kernel
theorem dL_reason_74 : decode cL_reason 74 = .ok (.goto 4, 3) := by decide +kernel
theorem dL_reason_77 : decode cL_reason 77 = .ok (.iconst 0, 1) := by decide +kernel
theorem dL_reason_78 : decode cL_reason 78 = .ok (.ireturn, 1) := by decide +kernel
theorem dL_nodder_0 : decode cL_nodder 0 = .ok (.aload_n 0, 1) := by decide +kernel
theorem dL_nodder_1 : decode cL_nodder 1 = .ok (.invokevirtual 72, 3) := by decide +kernel
theorem dL_nodder_4 : decode cL_nodder 4 = .ok (.ifCond .ge 5, 3) := by decide +kernel
theorem dL_nodder_7 : decode cL_nodder 7 = .ok (.iconst (-1), 1) := by decide +kernel
theorem dL_nodder_8 : decode cL_nodder 8 = .ok (.ireturn, 1) := by decide +kernel
theorem dL_nodder_9 : decode cL_nodder 9 = .ok (.aload_n 0, 1) := by decide +kernel
theorem dL_nodder_10 : decode cL_nodder 10 = .ok (.invokevirtual 63, 3) := by decide +kernel
theorem dL_nodder_13 : decode cL_nodder 13 = .ok (.istore_n 2, 1) := by decide +kernel
theorem dL_nodder_14 : decode cL_nodder 14 = .ok (.iconst 0, 1) := by decide +kernel
theorem dL_nodder_15 : decode cL_nodder 15 = .ok (.istore_n 3, 1) := by decide +kernel
theorem dL_nodder_16 : decode cL_nodder 16 = .ok (.iload_n 3, 1) := by decide +kernel
theorem dL_nodder_17 : decode cL_nodder 17 = .ok (.iload_n 2, 1) := by decide +kernel
theorem dL_nodder_18 : decode cL_nodder 18 = .ok (.if_icmp .ge 64, 3) := by decide +kernel
theorem dL_nodder_21 : decode cL_nodder 21 = .ok (.aload_n 0, 1) := by decide +kernel
theorem dL_nodder_22 : decode cL_nodder 22 = .ok (.invokevirtual 106, 3) := by decide +kernel
theorem dL_nodder_25 : decode cL_nodder 25 = .ok (.ifCond .ge 7, 3) := by decide +kernel
theorem dL_nodder_28 : decode cL_nodder 28 = .ok (.iload_n 3, 1) := by decide +kernel
theorem dL_nodder_29 : decode cL_nodder 29 = .ok (.goto 13, 3) := by decide +kernel
theorem dL_nodder_32 : decode cL_nodder 32 = .ok (.aload_n 0, 1) := by decide +kernel
theorem dL_nodder_33 : decode cL_nodder 33 = .ok (.invokevirtual 106, 3) := by decide +kernel
theorem dL_nodder_36 : decode cL_nodder 36 = .ok (.iconst 1, 1) := by decide +kernel
theorem dL_nodder_37 : decode cL_nodder 37 = .ok (.iadd, 1) := by decide +kernel
theorem dL_nodder_38 : decode cL_nodder 38 = .ok (.iload_n 3, 1) := by decide +kernel
theorem dL_nodder_39 : decode cL_nodder 39 = .ok (.iadd, 1) := by decide +kernel
theorem dL_nodder_40 : decode cL_nodder 40 = .ok (.iload_n 2, 1) := by decide +kernel
theorem dL_nodder_41 : decode cL_nodder 41 = .ok (.irem, 1) := by decide +kernel
theorem dL_nodder_42 : decode cL_nodder 42 = .ok (.istore 4, 2) := by decide +kernel
theorem dL_nodder_44 : decode cL_nodder 44 = .ok (.aload_n 0, 1) := by decide +kernel
theorem dL_nodder_45 : decode cL_nodder 45 = .ok (.aload_n 1, 1) := by decide +kernel
theorem dL_nodder_46 : decode cL_nodder 46 = .ok (.iload 4, 2) := by decide +kernel
theorem dL_nodder_48 : decode cL_nodder 48 = .ok (.invokestatic 125, 3) := by decide +kernel
theorem dL_nodder_51 : decode cL_nodder 51 = .ok (.ifCond .ne 25, 3) := by decide +kernel
theorem dL_nodder_54 : decode cL_nodder 54 = .ok (.aload_n 0, 1) := by decide +kernel
theorem dL_nodder_55 : decode cL_nodder 55 = .ok (.iload 4, 2) := by decide +kernel
theorem dL_nodder_57 : decode cL_nodder 57 = .ok (.aload_n 0, 1) := by decide +kernel
theorem dL_nodder_58 : decode cL_nodder 58 = .ok (.invokevirtual 72, 3) := by decide +kernel
theorem dL_nodder_61 : decode cL_nodder 61 = .ok (.invokestatic 129, 3) := by decide +kernel
theorem dL_nodder_64 : decode cL_nodder 64 = .ok (.aload_n 0, 1) := by decide +kernel
theorem dL_nodder_65 : decode cL_nodder 65 = .ok (.invokevirtual 133, 3) := by decide +kernel
theorem dL_nodder_68 : decode cL_nodder 68 = .ok (.i2d, 1) := by decide +kernel
theorem dL_nodder_69 : decode cL_nodder 69 = .ok (.dcmp .l, 1) := by decide +kernel
theorem dL_nodder_70 : decode cL_nodder 70 = .ok (.ifCond .lt 6, 3) := by decide +kernel
theorem dL_nodder_73 : decode cL_nodder 73 = .ok (.iload 4, 2) := by decide +kernel
theorem dL_nodder_75 : decode cL_nodder 75 = .ok (.ireturn, 1) := by decide +kernel
theorem dL_nodder_76 : decode cL_nodder 76 = .ok (.iinc 3 1, 3) := by decide +kernel
theorem dL_nodder_79 : decode cL_nodder 79 = .ok (.goto (-63), 3) := by decide +kernel
theorem dL_nodder_82 : decode cL_nodder 82 = .ok (.iconst (-1), 1) := by decide +kernel
theorem dL_nodder_83 : decode cL_nodder 83 = .ok (.ireturn, 1) := by decide +kernel
theorem dL_nod_0 : decode cL_nod 0 = .ok (.aload_n 0, 1) := by decide +kernel
theorem dL_nod_1 : decode cL_nod 1 = .ok (.iload_n 1, 1) := by decide +kernel
theorem dL_nod_2 : decode cL_nod 2 = .ok (.invokevirtual 166, 3) := by decide +kernel
theorem dL_nod_5 : decode cL_nod 5 = .ok (.ireturn, 1) := by decide +kernel
theorem dL_nod_6 : decode cL_nod 6 = .ok (.astore_n 2, 1) := by decide +kernel
theorem dL_nod_7 : decode cL_nod 7 = .ok (.bipush (-100), 2) := by decide +kernel
theorem dL_nod_9 : decode cL_nod 9 = .ok (.ireturn, 1) := by decide +kernel
theorem dL_split_0 : decode cL_split 0 = .ok (.aload_n 0, 1) := by decide +kernel
theorem dL_split_1 : decode cL_split 1 = .ok (.iload_n 1, 1) := by decide +kernel
theorem dL_split_2 : decode cL_split 2 = .ok (.iload_n 2, 1) := by decide +kernel
theorem dL_split_3 : decode cL_split 3 = .ok (.invokevirtual 171, 3) := by decide +kernel
theorem dL_split_6 : decode cL_split 6 = .ok (.ireturn, 1) := by decide +kernel
theorem dL_split_7 : decode cL_split 7 = .ok (.astore_n 3, 1) := by decide +kernel
theorem dL_split_8 : decode cL_split 8 = .ok (.bipush (-100), 2) := by decide +kernel
theorem dL_split_10 : decode cL_split 10 = .ok (.ireturn, 1) := by decide +kernel
theorem dL_withdraw_0 : decode cL_withdraw 0 = .ok (.aload_n 0, 1) := by decide +kernel
theorem dL_withdraw_1 : decode cL_withdraw 1 = .ok (.iload_n 1, 1) := by decide +kernel
theorem dL_withdraw_2 : decode cL_withdraw 2 = .ok (.invokevirtual 174, 3) := by decide +kernel
theorem dL_withdraw_5 : decode cL_withdraw 5 = .ok (.ireturn, 1) := by decide +kernel
theorem dL_withdraw_6 : decode cL_withdraw 6 = .ok (.astore_n 2, 1) := by decide +kernel
theorem dL_withdraw_7 : decode cL_withdraw 7 = .ok (.bipush (-100), 2) := by decide +kernel
theorem dL_withdraw_9 : decode cL_withdraw 9 = .ok (.ireturn, 1) := by decide +kernel
