theorem dX10_init_0 : decode cX10_init 0 = .ok (.aload_n 0, 1) := by decide +kernel
theorem dX10_init_1 : decode cX10_init 1 = .ok (.invokespecial 1, 3) := by decide +kernel
theorem dX10_init_4 : decode cX10_init 4 = .ok (.aload_n 0, 1) := by decide +kernel
theorem dX10_init_5 : decode cX10_init 5 = .ok (.new 7, 3) := by decide +kernel
theorem dX10_init_8 : decode cX10_init 8 = .ok (.dup, 1) := by decide +kernel
theorem dX10_init_9 : decode cX10_init 9 = .ok (.invokespecial 9, 3) := by decide +kernel
theorem dX10_init_12 : decode cX10_init 12 = .ok (.putfield 10, 3) := by decide +kernel
theorem dX10_init_15 : decode cX10_init 15 = .ok (.aload_n 0, 1) := by decide +kernel
theorem dX10_init_16 : decode cX10_init 16 = .ok (.new 7, 3) := by decide +kernel
theorem dX10_init_19 : decode cX10_init 19 = .ok (.dup, 1) := by decide +kernel
theorem dX10_init_20 : decode cX10_init 20 = .ok (.invokespecial 9, 3) := by decide +kernel
theorem dX10_init_23 : decode cX10_init 23 = .ok (.putfield 16, 3) := by decide +kernel
theorem dX10_init_26 : decode cX10_init 26 = .ok (.aload_n 0, 1) := by decide +kernel
theorem dX10_init_27 : decode cX10_init 27 = .ok (.new 19, 3) := by decide +kernel
theorem dX10_init_30 : decode cX10_init 30 = .ok (.dup, 1) := by decide +kernel
theorem dX10_init_31 : decode cX10_init 31 = .ok (.invokespecial 21, 3) := by decide +kernel
theorem dX10_init_34 : decode cX10_init 34 = .ok (.putfield 22, 3) := by decide +kernel
theorem dX10_init_37 : decode cX10_init 37 = .ok (.aload_n 0, 1) := by decide +kernel
theorem dX10_init_38 : decode cX10_init 38 = .ok (.iconst 2, 1) := by decide +kernel
theorem dX10_init_39 : decode cX10_init 39 = .ok (.anewarray 7, 3) := by decide +kernel
theorem dX10_init_42 : decode cX10_init 42 = .ok (.putfield 26, 3) := by decide +kernel
theorem dX10_init_45 : decode cX10_init 45 = .ok (.aload_n 0, 1) := by decide +kernel
theorem dX10_init_46 : decode cX10_init 46 = .ok (.iconst 2, 1) := by decide +kernel
theorem dX10_init_47 : decode cX10_init 47 = .ok (.newarray .boolean, 2) := by decide +kernel
theorem dX10_init_49 : decode cX10_init 49 = .ok (.putfield 30, 3) := by decide +kernel
theorem dX10_init_52 : decode cX10_init 52 = .ok (.aload_n 0, 1) := by decide +kernel
theorem dX10_init_53 : decode cX10_init 53 = .ok (.new 34, 3) := by decide +kernel
theorem dX10_init_56 : decode cX10_init 56 = .ok (.dup, 1) := by decide +kernel
theorem dX10_init_57 : decode cX10_init 57 = .ok (.invokespecial 36, 3) := by decide +kernel
theorem dX10_init_60 : decode cX10_init 60 = .ok (.putfield 37, 3) := by decide +kernel
theorem dX10_init_63 : decode cX10_init 63 = .ok (.aload_n 0, 1) := by decide +kernel
theorem dX10_init_64 : decode cX10_init 64 = .ok (.bipush 9, 2) := by decide +kernel
theorem dX10_init_66 : decode cX10_init 66 = .ok (.newarray .int, 2) := by decide +kernel
theorem dX10_init_68 : decode cX10_init 68 = .ok (.putfield 41, 3) := by decide +kernel
theorem dX10_init_71 : decode cX10_init 71 = .ok (.aload_n 0, 1) := by decide +kernel
theorem dX10_init_72 : decode cX10_init 72 = .ok (.new 45, 3) := by decide +kernel
theorem dX10_init_75 : decode cX10_init 75 = .ok (.dup, 1) := by decide +kernel
theorem dX10_init_76 : decode cX10_init 76 = .ok (.invokespecial 47, 3) := by decide +kernel
theorem dX10_init_79 : decode cX10_init 79 = .ok (.putfield 48, 3) := by decide +kernel
theorem dX10_init_82 : decode cX10_init 82 = .ok (.iconst 0, 1) := by decide +kernel
theorem dX10_init_83 : decode cX10_init 83 = .ok (.istore_n 1, 1) := by decide +kernel
theorem dX10_init_84 : decode cX10_init 84 = .ok (.iload_n 1, 1) := by decide +kernel
theorem dX10_init_85 : decode cX10_init 85 = .ok (.iconst 2, 1) := by decide +kernel
theorem dX10_init_86 : decode cX10_init 86 = .ok (.if_icmp .ge 22, 3) := by decide +kernel
theorem dX10_init_89 : decode cX10_init 89 = .ok (.aload_n 0, 1) := by decide +kernel
theorem dX10_init_90 : decode cX10_init 90 = .ok (.getfield 26, 3) := by decide +kernel
theorem dX10_init_93 : decode cX10_init 93 = .ok (.iload_n 1, 1) := by decide +kernel
theorem dX10_init_94 : decode cX10_init 94 = .ok (.new 7, 3) := by decide +kernel
theorem dX10_init_97 : decode cX10_init 97 = .ok (.dup, 1) := by decide +kernel
theorem dX10_init_98 : decode cX10_init 98 = .ok (.invokespecial 9, 3) := by decide +kernel
theorem dX10_init_101 : decode cX10_init 101 = .ok (.aastore, 1) := by decide +kernel
theorem dX10_init_102 : decode cX10_init 102 = .ok (.iinc 1 1, 3) := by decide +kernel
theorem dX10_init_105 : decode cX10_init 105 = .ok (.goto (-21), 3) := by decide +kernel
theorem dX10_init_108 : decode cX10_init 108 = .ok (.aload_n 0, 1) := by decide +kernel
theorem dX10_init_109 : decode cX10_init 109 = .ok (.getfield 37, 3) := by decide +kernel
theorem dX10_init_112 : decode cX10_init 112 = .ok (.getfield 52, 3) := by decide +kernel
theorem dX10_init_115 : decode cX10_init 115 = .ok (.ldc 56, 2) := by decide +kernel
theorem dX10_init_117 : decode cX10_init 117 = .ok (.invokevirtual 58, 3) := by decide +kernel
theorem dX10_init_120 : decode cX10_init 120 = .ok (.aload_n 0, 1) := by decide +kernel
theorem dX10_init_121 : decode cX10_init 121 = .ok (.getfield 37, 3) := by decide +kernel
theorem dX10_init_124 : decode cX10_init 124 = .ok (.aload_n 0, 1) := by decide +kernel
theorem dX10_init_125 : decode cX10_init 125 = .ok (.getfield 10, 3) := by decide +kernel
theorem dX10_init_128 : decode cX10_init 128 = .ok (.invokevirtual 64, 3) := by decide +kernel
theorem dX10_init_131 : decode cX10_init 131 = .ok (.pop, 1) := by decide +kernel
theorem dX10_init_132 : decode cX10_init 132 = .ok (.aload_n 0, 1) := by decide +kernel
theorem dX10_init_133 : decode cX10_init 133 = .ok (.getfield 37, 3) := by decide +kernel
theorem dX10_init_136 : decode cX10_init 136 = .ok (.getfield 52, 3) := by decide +kernel
theorem dX10_init_139 : decode cX10_init 139 = .ok (.iconst 0, 1) := by decide +kernel
theorem dX10_init_140 : decode cX10_init 140 = .ok (.putfield 68, 3) := by decide +kernel
theorem dX10_init_143 : decode cX10_init 143 = .ok (.return_, 1) := by decide +kernel
theorem dX10_append_0 : decode cX10_append 0 = .ok (.aload_n 0, 1) := by decide +kernel
theorem dX10_append_1 : decode cX10_append 1 = .ok (.getfield 37, 3) := by decide +kernel
theorem dX10_append_4 : decode cX10_append 4 = .ok (.getfield 52, 3) := by decide +kernel
theorem dX10_append_7 : decode cX10_append 7 = .ok (.astore 6, 2) := by decide +kernel
theorem dX10_append_9 : decode cX10_append 9 = .ok (.aload 6, 2) := by decide +kernel
theorem dX10_append_11 : decode cX10_append 11 = .ok (.getfield 68, 3) := by decide +kernel
theorem dX10_append_14 : decode cX10_append 14 = .ok (.bipush 20, 2) := by decide +kernel
theorem dX10_append_16 : decode cX10_append 16 = .ok (.iadd, 1) := by decide +kernel
theorem dX10_append_17 : decode cX10_append 17 = .ok (.sipush 500, 3) := by decide +kernel
theorem dX10_append_20 : decode cX10_append 20 = .ok (.if_icmp .le 13, 3) := by decide +kernel
theorem dX10_append_23 : decode cX10_append 23 = .ok (.new 72, 3) := by decide +kernel
theorem dX10_append_26 : decode cX10_append 26 = .ok (.dup, 1) := by decide +kernel
theorem dX10_append_27 : decode cX10_append 27 = .ok (.ldc 74, 2) := by decide +kernel
theorem dX10_append_29 : decode cX10_append 29 = .ok (.invokespecial 76, 3) := by decide +kernel
theorem dX10_append_32 : decode cX10_append 32 = .ok (.athrow, 1) := by decide +kernel
theorem dX10_append_33 : decode cX10_append 33 = .ok (.aload 6, 2) := by decide +kernel
theorem dX10_append_35 : decode cX10_append 35 = .ok (.iload_n 1, 1) := by decide +kernel
theorem dX10_append_36 : decode cX10_append 36 = .ok (.invokevirtual 78, 3) := by decide +kernel
theorem dX10_append_39 : decode cX10_append 39 = .ok (.aload 6, 2) := by decide +kernel
theorem dX10_append_41 : decode cX10_append 41 = .ok (.iload_n 2, 1) := by decide +kernel
theorem dX10_append_42 : decode cX10_append 42 = .ok (.invokevirtual 78, 3) := by decide +kernel
theorem dX10_append_45 : decode cX10_append 45 = .ok (.aload 6, 2) := by decide +kernel
theorem dX10_append_47 : decode cX10_append 47 = .ok (.iload_n 3, 1) := by decide +kernel
theorem dX10_append_48 : decode cX10_append 48 = .ok (.invokevirtual 78, 3) := by decide +kernel
theorem dX10_append_51 : decode cX10_append 51 = .ok (.aload 6, 2) := by decide +kernel
theorem dX10_append_53 : decode cX10_append 53 = .ok (.iload 4, 2) := by decide +kernel
theorem dX10_append_55 : decode cX10_append 55 = .ok (.invokevirtual 78, 3) := by decide +kernel
theorem dX10_append_58 : decode cX10_append 58 = .ok (.aload 6, 2) := by decide +kernel
theorem dX10_append_60 : decode cX10_append 60 = .ok (.iload 5, 2) := by decide +kernel
theorem dX10_append_62 : decode cX10_append 62 = .ok (.invokevirtual 78, 3) := by decide +kernel
theorem dX10_append_65 : decode cX10_append 65 = .ok (.aload 6, 2) := by decide +kernel
theorem dX10_append_67 : decode cX10_append 67 = .ok (.getfield 68, 3) := by decide +kernel
theorem dX10_append_70 : decode cX10_append 70 = .ok (.ireturn, 1) := by decide +kernel
theorem dX10_truncate_0 : decode cX10_truncate 0 = .ok (.iload_n 1, 1) := by decide +kernel
theorem dX10_truncate_1 : decode cX10_truncate 1 = .ok (.iconst 0, 1) := by decide +kernel
theorem dX10_truncate_2 : decode cX10_truncate 2 = .ok (.aload_n 0, 1) := by decide +kernel
theorem dX10_truncate_3 : decode cX10_truncate 3 = .ok (.getfield 37, 3) := by decide +kernel
theorem dX10_truncate_6 : decode cX10_truncate 6 = .ok (.getfield 52, 3) := by decide +kernel
theorem dX10_truncate_9 : decode cX10_truncate 9 = .ok (.getfield 68, 3) := by decide +kernel
theorem dX10_truncate_12 : decode cX10_truncate 12 = .ok (.invokestatic 82, 3) := by decide +kernel
theorem dX10_truncate_15 : decode cX10_truncate 15 = .ok (.aload_n 0, 1) := by decide +kernel
theorem dX10_truncate_16 : decode cX10_truncate 16 = .ok (.getfield 37, 3) := by decide +kernel
theorem dX10_truncate_19 : decode cX10_truncate 19 = .ok (.getfield 52, 3) := by decide +kernel
theorem dX10_truncate_22 : decode cX10_truncate 22 = .ok (.iload_n 1, 1) := by decide +kernel
theorem dX10_truncate_23 : decode cX10_truncate 23 = .ok (.putfield 68, 3) := by decide +kernel
theorem dX10_truncate_26 : decode cX10_truncate 26 = .ok (.iload_n 1, 1) := by decide +kernel
theorem dX10_truncate_27 : decode cX10_truncate 27 = .ok (.ireturn, 1) := by decide +kernel
theorem dX10_errorCode_0 : decode cX10_errorCode 0 = .ok (.aload_n 0, 1) := by decide +kernel
theorem dX10_errorCode_1 : decode cX10_errorCode 1 = .ok (.getfield 37, 3) := by decide +kernel
theorem dX10_errorCode_4 : decode cX10_errorCode 4 = .ok (.getfield 86, 3) := by decide +kernel
theorem dX10_errorCode_7 : decode cX10_errorCode 7 = .ok (.ireturn, 1) := by decide +kernel
theorem dX10_errorPosition_0 : decode cX10_errorPosition 0 = .ok (.aload_n 0, 1) := by decide +kernel
theorem dX10_errorPosition_1 : decode cX10_errorPosition 1 = .ok (.getfield 37, 3) := by decide +kernel
theorem dX10_errorPosition_4 : decode cX10_errorPosition 4 = .ok (.getfield 89, 3) := by decide +kernel
theorem dX10_errorPosition_7 : decode cX10_errorPosition 7 = .ok (.ireturn, 1) := by decide +kernel
theorem dX10_loadSetup_0 : decode cX10_loadSetup 0 = .ok (.aload_n 0, 1) := by decide +kernel
theorem dX10_loadSetup_1 : decode cX10_loadSetup 1 = .ok (.getfield 37, 3) := by decide +kernel
theorem dX10_loadSetup_4 : decode cX10_loadSetup 4 = .ok (.aload_n 0, 1) := by decide +kernel
theorem dX10_loadSetup_5 : decode cX10_loadSetup 5 = .ok (.getfield 16, 3) := by decide +kernel
theorem dX10_loadSetup_8 : decode cX10_loadSetup 8 = .ok (.invokevirtual 64, 3) := by decide +kernel
theorem dX10_loadSetup_11 : decode cX10_loadSetup 11 = .ok (.istore_n 1, 1) := by decide +kernel
theorem dX10_loadSetup_12 : decode cX10_loadSetup 12 = .ok (.aload_n 0, 1) := by decide +kernel
theorem dX10_loadSetup_13 : decode cX10_loadSetup 13 = .ok (.getfield 37, 3) := by decide +kernel
theorem dX10_loadSetup_16 : decode cX10_loadSetup 16 = .ok (.getfield 52, 3) := by decide +kernel
theorem dX10_loadSetup_19 : decode cX10_loadSetup 19 = .ok (.iconst 0, 1) := by decide +kernel
theorem dX10_loadSetup_20 : decode cX10_loadSetup 20 = .ok (.putfield 68, 3) := by decide +kernel
theorem dX10_loadSetup_23 : decode cX10_loadSetup 23 = .ok (.iload_n 1, 1) := by decide +kernel
theorem dX10_loadSetup_24 : decode cX10_loadSetup 24 = .ok (.ifCond .ne 13, 3) := by decide +kernel
theorem dX10_loadSetup_27 : decode cX10_loadSetup 27 = .ok (.new 92, 3) := by decide +kernel
theorem dX10_loadSetup_30 : decode cX10_loadSetup 30 = .ok (.dup, 1) := by decide +kernel
theorem dX10_loadSetup_31 : decode cX10_loadSetup 31 = .ok (.ldc 94, 2) := by decide +kernel
theorem dX10_loadSetup_33 : decode cX10_loadSetup 33 = .ok (.invokespecial 96, 3) := by decide +kernel
theorem dX10_loadSetup_36 : decode cX10_loadSetup 36 = .ok (.athrow, 1) := by decide +kernel
theorem dX10_loadSetup_37 : decode cX10_loadSetup 37 = .ok (.aload_n 0, 1) := by decide +kernel
theorem dX10_loadSetup_38 : decode cX10_loadSetup 38 = .ok (.getfield 22, 3) := by decide +kernel
theorem dX10_loadSetup_41 : decode cX10_loadSetup 41 = .ok (.aload_n 0, 1) := by decide +kernel
theorem dX10_loadSetup_42 : decode cX10_loadSetup 42 = .ok (.getfield 10, 3) := by decide +kernel
theorem dX10_loadSetup_45 : decode cX10_loadSetup 45 = .ok (.invokevirtual 97, 3) := by decide +kernel
theorem dX10_loadSetup_48 : decode cX10_loadSetup 48 = .ok (.aload_n 0, 1) := by decide +kernel
theorem dX10_loadSetup_49 : decode cX10_loadSetup 49 = .ok (.getfield 10, 3) := by decide +kernel
theorem dX10_loadSetup_52 : decode cX10_loadSetup 52 = .ok (.aload_n 0, 1) := by decide +kernel
theorem dX10_loadSetup_53 : decode cX10_loadSetup 53 = .ok (.getfield 16, 3) := by decide +kernel
theorem dX10_loadSetup_56 : decode cX10_loadSetup 56 = .ok (.invokevirtual 101, 3) := by decide +kernel
theorem dX10_loadSetup_59 : decode cX10_loadSetup 59 = .ok (.aload_n 0, 1) := by decide +kernel
theorem dX10_loadSetup_60 : decode cX10_loadSetup 60 = .ok (.getfield 10, 3) := by decide +kernel
theorem dX10_loadSetup_63 : decode cX10_loadSetup 63 = .ok (.getfield 104, 3) := by decide +kernel
theorem dX10_loadSetup_66 : decode cX10_loadSetup 66 = .ok (.ireturn, 1) := by decide +kernel
theorem dX10_runScript_0 : decode cX10_runScript 0 = .ok (.aload_n 0, 1) := by decide +kernel
theorem dX10_runScript_1 : decode cX10_runScript 1 = .ok (.getfield 37, 3) := by decide +kernel
theorem dX10_runScript_4 : decode cX10_runScript 4 = .ok (.aload_n 0, 1) := by decide +kernel
theorem dX10_runScript_5 : decode cX10_runScript 5 = .ok (.getfield 10, 3) := by decide +kernel
theorem dX10_runScript_8 : decode cX10_runScript 8 = .ok (.getfield 107, 3) := by decide +kernel
theorem dX10_runScript_11 : decode cX10_runScript 11 = .ok (.invokevirtual 110, 3) := by decide +kernel
theorem dX10_runScript_14 : decode cX10_runScript 14 = .ok (.istore_n 1, 1) := by decide +kernel
theorem dX10_runScript_15 : decode cX10_runScript 15 = .ok (.aload_n 0, 1) := by decide +kernel
theorem dX10_runScript_16 : decode cX10_runScript 16 = .ok (.getfield 37, 3) := by decide +kernel
theorem dX10_runScript_19 : decode cX10_runScript 19 = .ok (.getfield 52, 3) := by decide +kernel
theorem dX10_runScript_22 : decode cX10_runScript 22 = .ok (.iconst 0, 1) := by decide +kernel
theorem dX10_runScript_23 : decode cX10_runScript 23 = .ok (.putfield 68, 3) := by decide +kernel
theorem dX10_runScript_26 : decode cX10_runScript 26 = .ok (.iload_n 1, 1) := by decide +kernel
theorem dX10_runScript_27 : decode cX10_runScript 27 = .ok (.ifCond .ne 13, 3) := by decide +kernel
theorem dX10_runScript_30 : decode cX10_runScript 30 = .ok (.new 92, 3) := by decide +kernel
theorem dX10_runScript_33 : decode cX10_runScript 33 = .ok (.dup, 1) := by decide +kernel
theorem dX10_runScript_34 : decode cX10_runScript 34 = .ok (.ldc 114, 2) := by decide +kernel
theorem dX10_runScript_36 : decode cX10_runScript 36 = .ok (.invokespecial 96, 3) := by decide +kernel
theorem dX10_runScript_39 : decode cX10_runScript 39 = .ok (.athrow, 1) := by decide +kernel
theorem dX10_runScript_40 : decode cX10_runScript 40 = .ok (.aload_n 0, 1) := by decide +kernel
theorem dX10_runScript_41 : decode cX10_runScript 41 = .ok (.getfield 22, 3) := by decide +kernel
theorem dX10_runScript_44 : decode cX10_runScript 44 = .ok (.aload_n 0, 1) := by decide +kernel
theorem dX10_runScript_45 : decode cX10_runScript 45 = .ok (.getfield 10, 3) := by decide +kernel
theorem dX10_runScript_48 : decode cX10_runScript 48 = .ok (.invokevirtual 97, 3) := by decide +kernel
theorem dX10_runScript_51 : decode cX10_runScript 51 = .ok (.iconst 0, 1) := by decide +kernel
theorem dX10_runScript_52 : decode cX10_runScript 52 = .ok (.istore_n 2, 1) := by decide +kernel
theorem dX10_runScript_53 : decode cX10_runScript 53 = .ok (.iload_n 2, 1) := by decide +kernel
theorem dX10_runScript_54 : decode cX10_runScript 54 = .ok (.aload_n 0, 1) := by decide +kernel
theorem dX10_runScript_55 : decode cX10_runScript 55 = .ok (.getfield 37, 3) := by decide +kernel
theorem dX10_runScript_58 : decode cX10_runScript 58 = .ok (.getfield 116, 3) := by decide +kernel
theorem dX10_runScript_61 : decode cX10_runScript 61 = .ok (.if_icmp .ge 28, 3) := by decide +kernel
theorem dX10_runScript_64 : decode cX10_runScript 64 = .ok (.aload_n 0, 1) := by decide +kernel
theorem dX10_runScript_65 : decode cX10_runScript 65 = .ok (.getfield 10, 3) := by decide +kernel
theorem dX10_runScript_68 : decode cX10_runScript 68 = .ok (.aload_n 0, 1) := by decide +kernel
theorem dX10_runScript_69 : decode cX10_runScript 69 = .ok (.getfield 37, 3) := by decide +kernel
theorem dX10_runScript_72 : decode cX10_runScript 72 = .ok (.getfield 119, 3) := by decide +kernel
theorem dX10_runScript_75 : decode cX10_runScript 75 = .ok (.iload_n 2, 1) := by decide +kernel
theorem dX10_runScript_76 : decode cX10_runScript 76 = .ok (.aaload, 1) := by decide +kernel
theorem dX10_runScript_77 : decode cX10_runScript 77 = .ok (.invokevirtual 123, 3) := by decide +kernel
theorem dX10_runScript_80 : decode cX10_runScript 80 = .ok (.ifCond .eq 9, 3) := by decide +kernel
theorem dX10_runScript_83 : decode cX10_runScript 83 = .ok (.iinc 2 1, 3) := by decide +kernel
theorem dX10_runScript_86 : decode cX10_runScript 86 = .ok (.goto (-33), 3) := by decide +kernel
theorem dX10_runScript_89 : decode cX10_runScript 89 = .ok (.iload_n 2, 1) := by decide +kernel
theorem dX10_runScript_90 : decode cX10_runScript 90 = .ok (.ireturn, 1) := by decide +kernel
theorem dX10_nod_0 : decode cX10_nod 0 = .ok (.aload_n 0, 1) := by decide +kernel
theorem dX10_nod_1 : decode cX10_nod 1 = .ok (.iload_n 1, 1) := by decide +kernel
theorem dX10_nod_2 : decode cX10_nod 2 = .ok (.invokevirtual 127, 3) := by decide +kernel
theorem dX10_nod_5 : decode cX10_nod 5 = .ok (.aload_n 0, 1) := by decide +kernel
theorem dX10_nod_6 : decode cX10_nod 6 = .ok (.getfield 10, 3) := by decide +kernel
theorem dX10_nod_9 : decode cX10_nod 9 = .ok (.iload_n 1, 1) := by decide +kernel
theorem dX10_nod_10 : decode cX10_nod 10 = .ok (.invokevirtual 130, 3) := by decide +kernel
theorem dX10_nod_13 : decode cX10_nod 13 = .ok (.ifCond .ne 7, 3) := by decide +kernel
theorem dX10_nod_16 : decode cX10_nod 16 = .ok (.iconst 1, 1) := by decide +kernel
theorem dX10_nod_17 : decode cX10_nod 17 = .ok (.goto 4, 3) := by decide +kernel
theorem dX10_nod_20 : decode cX10_nod 20 = .ok (.iconst 0, 1) := by decide +kernel
theorem dX10_nod_21 : decode cX10_nod 21 = .ok (.invokestatic 134, 3) := by decide +kernel
theorem dX10_nod_24 : decode cX10_nod 24 = .ok (.aload_n 0, 1) := by decide +kernel
theorem dX10_nod_25 : decode cX10_nod 25 = .ok (.getfield 22, 3) := by decide +kernel
theorem dX10_nod_28 : decode cX10_nod 28 = .ok (.aload_n 0, 1) := by decide +kernel
theorem dX10_nod_29 : decode cX10_nod 29 = .ok (.getfield 10, 3) := by decide +kernel
theorem dX10_nod_32 : decode cX10_nod 32 = .ok (.invokevirtual 97, 3) := by decide +kernel
theorem dX10_nod_35 : decode cX10_nod 35 = .ok (.aload_n 0, 1) := by decide +kernel
theorem dX10_nod_36 : decode cX10_nod 36 = .ok (.getfield 10, 3) := by decide +kernel
theorem dX10_nod_39 : decode cX10_nod 39 = .ok (.iload_n 1, 1) := by decide +kernel
theorem dX10_nod_40 : decode cX10_nod 40 = .ok (.invokevirtual 138, 3) := by decide +kernel
theorem dX10_nod_43 : decode cX10_nod 43 = .ok (.aload_n 0, 1) := by decide +kernel
theorem dX10_nod_44 : decode cX10_nod 44 = .ok (.getfield 10, 3) := by decide +kernel
theorem dX10_nod_47 : decode cX10_nod 47 = .ok (.getfield 141, 3) := by decide +kernel
theorem dX10_nod_50 : decode cX10_nod 50 = .ok (.ireturn, 1) := by decide +kernel
theorem dX10_passMinutes_0 : decode cX10_passMinutes 0 = .ok (.iload_n 1, 1) := by decide +kernel
theorem dX10_passMinutes_1 : decode cX10_passMinutes 1 = .ok (.iconst 1, 1) := by decide +kernel
theorem dX10_passMinutes_2 : decode cX10_passMinutes 2 = .ok (.sipush 200, 3) := by decide +kernel
theorem dX10_passMinutes_5 : decode cX10_passMinutes 5 = .ok (.invokestatic 82, 3) := by decide +kernel
theorem dX10_passMinutes_8 : decode cX10_passMinutes 8 = .ok (.aload_n 0, 1) := by decide +kernel
theorem dX10_passMinutes_9 : decode cX10_passMinutes 9 = .ok (.getfield 22, 3) := by decide +kernel
theorem dX10_passMinutes_12 : decode cX10_passMinutes 12 = .ok (.aload_n 0, 1) := by decide +kernel
theorem dX10_passMinutes_13 : decode cX10_passMinutes 13 = .ok (.getfield 10, 3) := by decide +kernel
theorem dX10_passMinutes_16 : decode cX10_passMinutes 16 = .ok (.invokevirtual 97, 3) := by decide +kernel
theorem dX10_passMinutes_19 : decode cX10_passMinutes 19 = .ok (.aload_n 0, 1) := by decide +kernel
theorem dX10_passMinutes_20 : decode cX10_passMinutes 20 = .ok (.getfield 10, 3) := by decide +kernel
theorem dX10_passMinutes_23 : decode cX10_passMinutes 23 = .ok (.iload_n 1, 1) := by decide +kernel
theorem dX10_passMinutes_24 : decode cX10_passMinutes 24 = .ok (.invokevirtual 144, 3) := by decide +kernel
theorem dX10_passMinutes_27 : decode cX10_passMinutes 27 = .ok (.ireturn, 1) := by decide +kernel
theorem dX10_addBarrel_0 : decode cX10_addBarrel 0 = .ok (.iload_n 1, 1) := by decide +kernel
theorem dX10_addBarrel_1 : decode cX10_addBarrel 1 = .ok (.iconst 1, 1) := by decide +kernel
theorem dX10_addBarrel_2 : decode cX10_addBarrel 2 = .ok (.sipush 999, 3) := by decide +kernel
theorem dX10_addBarrel_5 : decode cX10_addBarrel 5 = .ok (.invokestatic 82, 3) := by decide +kernel
theorem dX10_addBarrel_8 : decode cX10_addBarrel 8 = .ok (.iload_n 2, 1) := by decide +kernel
theorem dX10_addBarrel_9 : decode cX10_addBarrel 9 = .ok (.iconst 1, 1) := by decide +kernel
theorem dX10_addBarrel_10 : decode cX10_addBarrel 10 = .ok (.bipush 9, 2) := by decide +kernel
theorem dX10_addBarrel_12 : decode cX10_addBarrel 12 = .ok (.invokestatic 82, 3) := by decide +kernel
theorem dX10_addBarrel_15 : decode cX10_addBarrel 15 = .ok (.iload_n 3, 1) := by decide +kernel
theorem dX10_addBarrel_16 : decode cX10_addBarrel 16 = .ok (.bipush 10, 2) := by decide +kernel
theorem dX10_addBarrel_18 : decode cX10_addBarrel 18 = .ok (.sipush 150, 3) := by decide +kernel
theorem dX10_addBarrel_21 : decode cX10_addBarrel 21 = .ok (.invokestatic 82, 3) := by decide +kernel
theorem dX10_addBarrel_24 : decode cX10_addBarrel 24 = .ok (.aload_n 0, 1) := by decide +kernel
theorem dX10_addBarrel_25 : decode cX10_addBarrel 25 = .ok (.getfield 10, 3) := by decide +kernel
theorem dX10_addBarrel_28 : decode cX10_addBarrel 28 = .ok (.invokevirtual 147, 3) := by decide +kernel
theorem dX10_addBarrel_31 : decode cX10_addBarrel 31 = .ok (.invokestatic 134, 3) := by decide +kernel
theorem dX10_addBarrel_34 : decode cX10_addBarrel 34 = .ok (.aload_n 0, 1) := by decide +kernel
theorem dX10_addBarrel_35 : decode cX10_addBarrel 35 = .ok (.getfield 22, 3) := by decide +kernel
theorem dX10_addBarrel_38 : decode cX10_addBarrel 38 = .ok (.aload_n 0, 1) := by decide +kernel
theorem dX10_addBarrel_39 : decode cX10_addBarrel 39 = .ok (.getfield 10, 3) := by decide +kernel
theorem dX10_addBarrel_42 : decode cX10_addBarrel 42 = .ok (.invokevirtual 97, 3) := by decide +kernel
theorem dX10_addBarrel_45 : decode cX10_addBarrel 45 = .ok (.aload_n 0, 1) := by decide +kernel
theorem dX10_addBarrel_46 : decode cX10_addBarrel 46 = .ok (.getfield 41, 3) := by decide +kernel
theorem dX10_addBarrel_49 : decode cX10_addBarrel 49 = .ok (.iload_n 3, 1) := by decide +kernel
theorem dX10_addBarrel_50 : decode cX10_addBarrel 50 = .ok (.invokestatic 151, 3) := by decide +kernel
theorem dX10_addBarrel_53 : decode cX10_addBarrel 53 = .ok (.aload_n 0, 1) := by decide +kernel
theorem dX10_addBarrel_54 : decode cX10_addBarrel 54 = .ok (.getfield 10, 3) := by decide +kernel
theorem dX10_addBarrel_57 : decode cX10_addBarrel 57 = .ok (.iload_n 1, 1) := by decide +kernel
theorem dX10_addBarrel_58 : decode cX10_addBarrel 58 = .ok (.aload_n 0, 1) := by decide +kernel
theorem dX10_addBarrel_59 : decode cX10_addBarrel 59 = .ok (.getfield 41, 3) := by decide +kernel
theorem dX10_addBarrel_62 : decode cX10_addBarrel 62 = .ok (.iconst 0, 1) := by decide +kernel
theorem dX10_addBarrel_63 : decode cX10_addBarrel 63 = .ok (.iload_n 2, 1) := by decide +kernel
theorem dX10_addBarrel_64 : decode cX10_addBarrel 64 = .ok (.invokevirtual 157, 3) := by decide +kernel
theorem dX10_addBarrel_67 : decode cX10_addBarrel 67 = .ok (.ireturn, 1) := by decide +kernel
theorem dX10_split_0 : decode cX10_split 0 = .ok (.aload_n 0, 1) := by decide +kernel
theorem dX10_split_1 : decode cX10_split 1 = .ok (.iload_n 1, 1) := by decide +kernel
theorem dX10_split_2 : decode cX10_split 2 = .ok (.invokevirtual 161, 3) := by decide +kernel
theorem dX10_split_5 : decode cX10_split 5 = .ok (.iload_n 2, 1) := by decide +kernel
theorem dX10_split_6 : decode cX10_split 6 = .ok (.iconst 1, 1) := by decide +kernel
theorem dX10_split_7 : decode cX10_split 7 = .ok (.bipush 8, 2) := by decide +kernel
theorem dX10_split_9 : decode cX10_split 9 = .ok (.invokestatic 82, 3) := by decide +kernel
theorem dX10_split_12 : decode cX10_split 12 = .ok (.aload_n 0, 1) := by decide +kernel
theorem dX10_split_13 : decode cX10_split 13 = .ok (.getfield 10, 3) := by decide +kernel
theorem dX10_split_16 : decode cX10_split 16 = .ok (.iload_n 1, 1) := by decide +kernel
theorem dX10_split_17 : decode cX10_split 17 = .ok (.iload_n 2, 1) := by decide +kernel
theorem dX10_split_18 : decode cX10_split 18 = .ok (.invokevirtual 164, 3) := by decide +kernel
theorem dX10_split_21 : decode cX10_split 21 = .ok (.invokestatic 134, 3) := by decide +kernel
theorem dX10_split_24 : decode cX10_split 24 = .ok (.aload_n 0, 1) := by decide +kernel
theorem dX10_split_25 : decode cX10_split 25 = .ok (.getfield 22, 3) := by decide +kernel
theorem dX10_split_28 : decode cX10_split 28 = .ok (.aload_n 0, 1) := by decide +kernel
theorem dX10_split_29 : decode cX10_split 29 = .ok (.getfield 10, 3) := by decide +kernel
theorem dX10_split_32 : decode cX10_split 32 = .ok (.invokevirtual 97, 3) := by decide +kernel
theorem dX10_split_35 : decode cX10_split 35 = .ok (.aload_n 0, 1) := by decide +kernel
theorem dX10_split_36 : decode cX10_split 36 = .ok (.getfield 10, 3) := by decide +kernel
theorem dX10_split_39 : decode cX10_split 39 = .ok (.iload_n 1, 1) := by decide +kernel
theorem dX10_split_40 : decode cX10_split 40 = .ok (.iload_n 2, 1) := by decide +kernel
theorem dX10_split_41 : decode cX10_split 41 = .ok (.invokevirtual 168, 3) := by decide +kernel
theorem dX10_split_44 : decode cX10_split 44 = .ok (.ireturn, 1) := by decide +kernel
theorem dX10_withdraw_0 : decode cX10_withdraw 0 = .ok (.aload_n 0, 1) := by decide +kernel
theorem dX10_withdraw_1 : decode cX10_withdraw 1 = .ok (.iload_n 1, 1) := by decide +kernel
theorem dX10_withdraw_2 : decode cX10_withdraw 2 = .ok (.invokevirtual 161, 3) := by decide +kernel
theorem dX10_withdraw_5 : decode cX10_withdraw 5 = .ok (.aload_n 0, 1) := by decide +kernel
theorem dX10_withdraw_6 : decode cX10_withdraw 6 = .ok (.getfield 10, 3) := by decide +kernel
theorem dX10_withdraw_9 : decode cX10_withdraw 9 = .ok (.iload_n 1, 1) := by decide +kernel
theorem dX10_withdraw_10 : decode cX10_withdraw 10 = .ok (.invokevirtual 172, 3) := by decide +kernel
theorem dX10_withdraw_13 : decode cX10_withdraw 13 = .ok (.invokestatic 134, 3) := by decide +kernel
theorem dX10_withdraw_16 : decode cX10_withdraw 16 = .ok (.aload_n 0, 1) := by decide +kernel
theorem dX10_withdraw_17 : decode cX10_withdraw 17 = .ok (.getfield 22, 3) := by decide +kernel
theorem dX10_withdraw_20 : decode cX10_withdraw 20 = .ok (.aload_n 0, 1) := by decide +kernel
theorem dX10_withdraw_21 : decode cX10_withdraw 21 = .ok (.getfield 10, 3) := by decide +kernel
theorem dX10_withdraw_24 : decode cX10_withdraw 24 = .ok (.invokevirtual 97, 3) := by decide +kernel
theorem dX10_withdraw_27 : decode cX10_withdraw 27 = .ok (.aload_n 0, 1) := by decide +kernel
theorem dX10_withdraw_28 : decode cX10_withdraw 28 = .ok (.getfield 10, 3) := by decide +kernel
theorem dX10_withdraw_31 : decode cX10_withdraw 31 = .ok (.iload_n 1, 1) := by decide +kernel
theorem dX10_withdraw_32 : decode cX10_withdraw 32 = .ok (.invokevirtual 175, 3) := by decide +kernel
theorem dX10_withdraw_35 : decode cX10_withdraw 35 = .ok (.aload_n 0, 1) := by decide +kernel
theorem dX10_withdraw_36 : decode cX10_withdraw 36 = .ok (.getfield 10, 3) := by decide +kernel
theorem dX10_withdraw_39 : decode cX10_withdraw 39 = .ok (.getfield 178, 3) := by decide +kernel
theorem dX10_withdraw_42 : decode cX10_withdraw 42 = .ok (.ireturn, 1) := by decide +kernel
theorem dX10_fund_0 : decode cX10_fund 0 = .ok (.aload_n 0, 1) := by decide +kernel
theorem dX10_fund_1 : decode cX10_fund 1 = .ok (.iload_n 1, 1) := by decide +kernel
theorem dX10_fund_2 : decode cX10_fund 2 = .ok (.invokevirtual 127, 3) := by decide +kernel
theorem dX10_fund_5 : decode cX10_fund 5 = .ok (.iload_n 2, 1) := by decide +kernel
theorem dX10_fund_6 : decode cX10_fund 6 = .ok (.iconst 1, 1) := by decide +kernel
theorem dX10_fund_7 : decode cX10_fund 7 = .ok (.sipush 9999, 3) := by decide +kernel
theorem dX10_fund_10 : decode cX10_fund 10 = .ok (.invokestatic 82, 3) := by decide +kernel
theorem dX10_fund_13 : decode cX10_fund 13 = .ok (.aload_n 0, 1) := by decide +kernel
theorem dX10_fund_14 : decode cX10_fund 14 = .ok (.getfield 22, 3) := by decide +kernel
theorem dX10_fund_17 : decode cX10_fund 17 = .ok (.aload_n 0, 1) := by decide +kernel
theorem dX10_fund_18 : decode cX10_fund 18 = .ok (.getfield 10, 3) := by decide +kernel
theorem dX10_fund_21 : decode cX10_fund 21 = .ok (.invokevirtual 97, 3) := by decide +kernel
theorem dX10_fund_24 : decode cX10_fund 24 = .ok (.aload_n 0, 1) := by decide +kernel
theorem dX10_fund_25 : decode cX10_fund 25 = .ok (.getfield 10, 3) := by decide +kernel
theorem dX10_fund_28 : decode cX10_fund 28 = .ok (.iload_n 1, 1) := by decide +kernel
theorem dX10_fund_29 : decode cX10_fund 29 = .ok (.iload_n 2, 1) := by decide +kernel
theorem dX10_fund_30 : decode cX10_fund 30 = .ok (.invokevirtual 181, 3) := by decide +kernel
theorem dX10_fund_33 : decode cX10_fund 33 = .ok (.aload_n 0, 1) := by decide +kernel
theorem dX10_fund_34 : decode cX10_fund 34 = .ok (.getfield 10, 3) := by decide +kernel
theorem dX10_fund_37 : decode cX10_fund 37 = .ok (.getfield 185, 3) := by decide +kernel
theorem dX10_fund_40 : decode cX10_fund 40 = .ok (.iload_n 1, 1) := by decide +kernel
theorem dX10_fund_41 : decode cX10_fund 41 = .ok (.aaload, 1) := by decide +kernel
theorem dX10_fund_42 : decode cX10_fund 42 = .ok (.getfield 189, 3) := by decide +kernel
theorem dX10_fund_45 : decode cX10_fund 45 = .ok (.ireturn, 1) := by decide +kernel
theorem dX10_setReserve_0 : decode cX10_setReserve 0 = .ok (.aload_n 0, 1) := by decide +kernel
theorem dX10_setReserve_1 : decode cX10_setReserve 1 = .ok (.iload_n 1, 1) := by decide +kernel
theorem dX10_setReserve_2 : decode cX10_setReserve 2 = .ok (.invokevirtual 161, 3) := by decide +kernel
theorem dX10_setReserve_5 : decode cX10_setReserve 5 = .ok (.iload_n 2, 1) := by decide +kernel
theorem dX10_setReserve_6 : decode cX10_setReserve 6 = .ok (.iconst 1, 1) := by decide +kernel
theorem dX10_setReserve_7 : decode cX10_setReserve 7 = .ok (.sipush 999, 3) := by decide +kernel
theorem dX10_setReserve_10 : decode cX10_setReserve 10 = .ok (.invokestatic 82, 3) := by decide +kernel
theorem dX10_setReserve_13 : decode cX10_setReserve 13 = .ok (.aload_n 0, 1) := by decide +kernel
theorem dX10_setReserve_14 : decode cX10_setReserve 14 = .ok (.getfield 10, 3) := by decide +kernel
theorem dX10_setReserve_17 : decode cX10_setReserve 17 = .ok (.iload_n 1, 1) := by decide +kernel
theorem dX10_setReserve_18 : decode cX10_setReserve 18 = .ok (.invokevirtual 172, 3) := by decide +kernel
theorem dX10_setReserve_21 : decode cX10_setReserve 21 = .ok (.invokestatic 134, 3) := by decide +kernel
theorem dX10_setReserve_24 : decode cX10_setReserve 24 = .ok (.aload_n 0, 1) := by decide +kernel
theorem dX10_setReserve_25 : decode cX10_setReserve 25 = .ok (.getfield 22, 3) := by decide +kernel
theorem dX10_setReserve_28 : decode cX10_setReserve 28 = .ok (.aload_n 0, 1) := by decide +kernel
theorem dX10_setReserve_29 : decode cX10_setReserve 29 = .ok (.getfield 10, 3) := by decide +kernel
theorem dX10_setReserve_32 : decode cX10_setReserve 32 = .ok (.invokevirtual 97, 3) := by decide +kernel
theorem dX10_setReserve_35 : decode cX10_setReserve 35 = .ok (.aload_n 0, 1) := by decide +kernel
theorem dX10_setReserve_36 : decode cX10_setReserve 36 = .ok (.getfield 10, 3) := by decide +kernel
theorem dX10_setReserve_39 : decode cX10_setReserve 39 = .ok (.getfield 194, 3) := by decide +kernel
theorem dX10_setReserve_42 : decode cX10_setReserve 42 = .ok (.iload_n 1, 1) := by decide +kernel
theorem dX10_setReserve_43 : decode cX10_setReserve 43 = .ok (.aaload, 1) := by decide +kernel
theorem dX10_setReserve_44 : decode cX10_setReserve 44 = .ok (.getfield 198, 3) := by decide +kernel
theorem dX10_setReserve_47 : decode cX10_setReserve 47 = .ok (.istore_n 3, 1) := by decide +kernel
theorem dX10_setReserve_48 : decode cX10_setReserve 48 = .ok (.aload_n 0, 1) := by decide +kernel
theorem dX10_setReserve_49 : decode cX10_setReserve 49 = .ok (.getfield 10, 3) := by decide +kernel
theorem dX10_setReserve_52 : decode cX10_setReserve 52 = .ok (.getfield 194, 3) := by decide +kernel
theorem dX10_setReserve_55 : decode cX10_setReserve 55 = .ok (.iload_n 1, 1) := by decide +kernel
theorem dX10_setReserve_56 : decode cX10_setReserve 56 = .ok (.aaload, 1) := by decide +kernel
theorem dX10_setReserve_57 : decode cX10_setReserve 57 = .ok (.iload_n 2, 1) := by decide +kernel
theorem dX10_setReserve_58 : decode cX10_setReserve 58 = .ok (.putfield 198, 3) := by decide +kernel
theorem dX10_setReserve_61 : decode cX10_setReserve 61 = .ok (.iload_n 3, 1) := by decide +kernel
theorem dX10_setReserve_62 : decode cX10_setReserve 62 = .ok (.ireturn, 1) := by decide +kernel
theorem dX10_setStep_0 : decode cX10_setStep 0 = .ok (.iload_n 1, 1) := by decide +kernel
theorem dX10_setStep_1 : decode cX10_setStep 1 = .ok (.iconst 1, 1) := by decide +kernel
theorem dX10_setStep_2 : decode cX10_setStep 2 = .ok (.bipush 50, 2) := by decide +kernel
theorem dX10_setStep_4 : decode cX10_setStep 4 = .ok (.invokestatic 82, 3) := by decide +kernel
theorem dX10_setStep_7 : decode cX10_setStep 7 = .ok (.aload_n 0, 1) := by decide +kernel
theorem dX10_setStep_8 : decode cX10_setStep 8 = .ok (.getfield 22, 3) := by decide +kernel
theorem dX10_setStep_11 : decode cX10_setStep 11 = .ok (.aload_n 0, 1) := by decide +kernel
theorem dX10_setStep_12 : decode cX10_setStep 12 = .ok (.getfield 10, 3) := by decide +kernel
theorem dX10_setStep_15 : decode cX10_setStep 15 = .ok (.invokevirtual 97, 3) := by decide +kernel
theorem dX10_setStep_18 : decode cX10_setStep 18 = .ok (.aload_n 0, 1) := by decide +kernel
theorem dX10_setStep_19 : decode cX10_setStep 19 = .ok (.getfield 10, 3) := by decide +kernel
theorem dX10_setStep_22 : decode cX10_setStep 22 = .ok (.getfield 203, 3) := by decide +kernel
theorem dX10_setStep_25 : decode cX10_setStep 25 = .ok (.istore_n 2, 1) := by decide +kernel
theorem dX10_setStep_26 : decode cX10_setStep 26 = .ok (.aload_n 0, 1) := by decide +kernel
theorem dX10_setStep_27 : decode cX10_setStep 27 = .ok (.getfield 10, 3) := by decide +kernel
theorem dX10_setStep_30 : decode cX10_setStep 30 = .ok (.iload_n 1, 1) := by decide +kernel
theorem dX10_setStep_31 : decode cX10_setStep 31 = .ok (.putfield 203, 3) := by decide +kernel
theorem dX10_setStep_34 : decode cX10_setStep 34 = .ok (.iload_n 2, 1) := by decide +kernel
theorem dX10_setStep_35 : decode cX10_setStep 35 = .ok (.ireturn, 1) := by decide +kernel
theorem dX10_setTaste_0 : decode cX10_setTaste 0 = .ok (.aload_n 0, 1) := by decide +kernel
theorem dX10_setTaste_1 : decode cX10_setTaste 1 = .ok (.iload_n 1, 1) := by decide +kernel
theorem dX10_setTaste_2 : decode cX10_setTaste 2 = .ok (.invokevirtual 127, 3) := by decide +kernel
theorem dX10_setTaste_5 : decode cX10_setTaste 5 = .ok (.iload_n 2, 1) := by decide +kernel
theorem dX10_setTaste_6 : decode cX10_setTaste 6 = .ok (.iconst 0, 1) := by decide +kernel
theorem dX10_setTaste_7 : decode cX10_setTaste 7 = .ok (.iconst 4, 1) := by decide +kernel
theorem dX10_setTaste_8 : decode cX10_setTaste 8 = .ok (.invokestatic 82, 3) := by decide +kernel
theorem dX10_setTaste_11 : decode cX10_setTaste 11 = .ok (.iload_n 3, 1) := by decide +kernel
theorem dX10_setTaste_12 : decode cX10_setTaste 12 = .ok (.iconst 1, 1) := by decide +kernel
theorem dX10_setTaste_13 : decode cX10_setTaste 13 = .ok (.sipush 999, 3) := by decide +kernel
theorem dX10_setTaste_16 : decode cX10_setTaste 16 = .ok (.invokestatic 82, 3) := by decide +kernel
theorem dX10_setTaste_19 : decode cX10_setTaste 19 = .ok (.aload_n 0, 1) := by decide +kernel
theorem dX10_setTaste_20 : decode cX10_setTaste 20 = .ok (.getfield 22, 3) := by decide +kernel
theorem dX10_setTaste_23 : decode cX10_setTaste 23 = .ok (.aload_n 0, 1) := by decide +kernel
theorem dX10_setTaste_24 : decode cX10_setTaste 24 = .ok (.getfield 10, 3) := by decide +kernel
theorem dX10_setTaste_27 : decode cX10_setTaste 27 = .ok (.invokevirtual 97, 3) := by decide +kernel
theorem dX10_setTaste_30 : decode cX10_setTaste 30 = .ok (.aload_n 0, 1) := by decide +kernel
theorem dX10_setTaste_31 : decode cX10_setTaste 31 = .ok (.getfield 10, 3) := by decide +kernel
theorem dX10_setTaste_34 : decode cX10_setTaste 34 = .ok (.getfield 185, 3) := by decide +kernel
theorem dX10_setTaste_37 : decode cX10_setTaste 37 = .ok (.iload_n 1, 1) := by decide +kernel
theorem dX10_setTaste_38 : decode cX10_setTaste 38 = .ok (.aaload, 1) := by decide +kernel
theorem dX10_setTaste_39 : decode cX10_setTaste 39 = .ok (.astore 4, 2) := by decide +kernel
theorem dX10_setTaste_41 : decode cX10_setTaste 41 = .ok (.aload 4, 2) := by decide +kernel
theorem dX10_setTaste_43 : decode cX10_setTaste 43 = .ok (.getfield 206, 3) := by decide +kernel
theorem dX10_setTaste_46 : decode cX10_setTaste 46 = .ok (.istore 5, 2) := by decide +kernel
theorem dX10_setTaste_48 : decode cX10_setTaste 48 = .ok (.aload 4, 2) := by decide +kernel
theorem dX10_setTaste_50 : decode cX10_setTaste 50 = .ok (.iload_n 2, 1) := by decide +kernel
theorem dX10_setTaste_51 : decode cX10_setTaste 51 = .ok (.putfield 206, 3) := by decide +kernel
theorem dX10_setTaste_54 : decode cX10_setTaste 54 = .ok (.aload 4, 2) := by decide +kernel
theorem dX10_setTaste_56 : decode cX10_setTaste 56 = .ok (.iload_n 3, 1) := by decide +kernel
theorem dX10_setTaste_57 : decode cX10_setTaste 57 = .ok (.putfield 209, 3) := by decide +kernel
theorem dX10_setTaste_60 : decode cX10_setTaste 60 = .ok (.iload 5, 2) := by decide +kernel
theorem dX10_setTaste_62 : decode cX10_setTaste 62 = .ok (.ireturn, 1) := by decide +kernel
theorem dX10_undo_0 : decode cX10_undo 0 = .ok (.aload_n 0, 1) := by decide +kernel
theorem dX10_undo_1 : decode cX10_undo 1 = .ok (.getfield 22, 3) := by decide +kernel
theorem dX10_undo_4 : decode cX10_undo 4 = .ok (.getfield 212, 3) := by decide +kernel
theorem dX10_undo_7 : decode cX10_undo 7 = .ok (.ifCond .ne 13, 3) := by decide +kernel
theorem dX10_undo_10 : decode cX10_undo 10 = .ok (.new 215, 3) := by decide +kernel
theorem dX10_undo_13 : decode cX10_undo 13 = .ok (.dup, 1) := by decide +kernel
theorem dX10_undo_14 : decode cX10_undo 14 = .ok (.ldc 217, 2) := by decide +kernel
theorem dX10_undo_16 : decode cX10_undo 16 = .ok (.invokespecial 219, 3) := by decide +kernel
theorem dX10_undo_19 : decode cX10_undo 19 = .ok (.athrow, 1) := by decide +kernel
theorem dX10_undo_20 : decode cX10_undo 20 = .ok (.aload_n 0, 1) := by decide +kernel
theorem dX10_undo_21 : decode cX10_undo 21 = .ok (.getfield 22, 3) := by decide +kernel
theorem dX10_undo_24 : decode cX10_undo 24 = .ok (.aload_n 0, 1) := by decide +kernel
theorem dX10_undo_25 : decode cX10_undo 25 = .ok (.getfield 10, 3) := by decide +kernel
theorem dX10_undo_28 : decode cX10_undo 28 = .ok (.invokevirtual 220, 3) := by decide +kernel
theorem dX10_undo_31 : decode cX10_undo 31 = .ok (.aload_n 0, 1) := by decide +kernel
theorem dX10_undo_32 : decode cX10_undo 32 = .ok (.getfield 22, 3) := by decide +kernel
theorem dX10_undo_35 : decode cX10_undo 35 = .ok (.getfield 212, 3) := by decide +kernel
theorem dX10_undo_38 : decode cX10_undo 38 = .ok (.ireturn, 1) := by decide +kernel
theorem dX10_saveSnapshot_0 : decode cX10_saveSnapshot 0 = .ok (.iload_n 1, 1) := by decide +kernel
theorem dX10_saveSnapshot_1 : decode cX10_saveSnapshot 1 = .ok (.iconst 0, 1) := by decide +kernel
theorem dX10_saveSnapshot_2 : decode cX10_saveSnapshot 2 = .ok (.iconst 1, 1) := by decide +kernel
theorem dX10_saveSnapshot_3 : decode cX10_saveSnapshot 3 = .ok (.invokestatic 82, 3) := by decide +kernel
theorem dX10_saveSnapshot_6 : decode cX10_saveSnapshot 6 = .ok (.aload_n 0, 1) := by decide +kernel
theorem dX10_saveSnapshot_7 : decode cX10_saveSnapshot 7 = .ok (.getfield 26, 3) := by decide +kernel
theorem dX10_saveSnapshot_10 : decode cX10_saveSnapshot 10 = .ok (.iload_n 1, 1) := by decide +kernel
theorem dX10_saveSnapshot_11 : decode cX10_saveSnapshot 11 = .ok (.aaload, 1) := by decide +kernel
theorem dX10_saveSnapshot_12 : decode cX10_saveSnapshot 12 = .ok (.aload_n 0, 1) := by decide +kernel
theorem dX10_saveSnapshot_13 : decode cX10_saveSnapshot 13 = .ok (.getfield 10, 3) := by decide +kernel
theorem dX10_saveSnapshot_16 : decode cX10_saveSnapshot 16 = .ok (.invokevirtual 101, 3) := by decide +kernel
theorem dX10_saveSnapshot_19 : decode cX10_saveSnapshot 19 = .ok (.aload_n 0, 1) := by decide +kernel
theorem dX10_saveSnapshot_20 : decode cX10_saveSnapshot 20 = .ok (.getfield 30, 3) := by decide +kernel
theorem dX10_saveSnapshot_23 : decode cX10_saveSnapshot 23 = .ok (.iload_n 1, 1) := by decide +kernel
theorem dX10_saveSnapshot_24 : decode cX10_saveSnapshot 24 = .ok (.iconst 1, 1) := by decide +kernel
theorem dX10_saveSnapshot_25 : decode cX10_saveSnapshot 25 = .ok (.bastore, 1) := by decide +kernel
theorem dX10_saveSnapshot_26 : decode cX10_saveSnapshot 26 = .ok (.return_, 1) := by decide +kernel
theorem dX10_restoreSnapshot_0 : decode cX10_restoreSnapshot 0 = .ok (.iload_n 1, 1) := by decide +kernel
theorem dX10_restoreSnapshot_1 : decode cX10_restoreSnapshot 1 = .ok (.iconst 0, 1) := by decide +kernel
theorem dX10_restoreSnapshot_2 : decode cX10_restoreSnapshot 2 = .ok (.iconst 1, 1) := by decide +kernel
theorem dX10_restoreSnapshot_3 : decode cX10_restoreSnapshot 3 = .ok (.invokestatic 82, 3) := by decide +kernel
theorem dX10_restoreSnapshot_6 : decode cX10_restoreSnapshot 6 = .ok (.aload_n 0, 1) := by decide +kernel
theorem dX10_restoreSnapshot_7 : decode cX10_restoreSnapshot 7 = .ok (.getfield 30, 3) := by decide +kernel
theorem dX10_restoreSnapshot_10 : decode cX10_restoreSnapshot 10 = .ok (.iload_n 1, 1) := by decide +kernel
theorem dX10_restoreSnapshot_11 : decode cX10_restoreSnapshot 11 = .ok (.baload, 1) := by decide +kernel
theorem dX10_restoreSnapshot_12 : decode cX10_restoreSnapshot 12 = .ok (.ifCond .ne 13, 3) := by decide +kernel
theorem dX10_restoreSnapshot_15 : decode cX10_restoreSnapshot 15 = .ok (.new 215, 3) := by decide +kernel
theorem dX10_restoreSnapshot_18 : decode cX10_restoreSnapshot 18 = .ok (.dup, 1) := by decide +kernel
theorem dX10_restoreSnapshot_19 : decode cX10_restoreSnapshot 19 = .ok (.ldc 223, 2) := by decide +kernel
theorem dX10_restoreSnapshot_21 : decode cX10_restoreSnapshot 21 = .ok (.invokespecial 219, 3) := by decide +kernel
theorem dX10_restoreSnapshot_24 : decode cX10_restoreSnapshot 24 = .ok (.athrow, 1) := by decide +kernel
theorem dX10_restoreSnapshot_25 : decode cX10_restoreSnapshot 25 = .ok (.aload_n 0, 1) := by decide +kernel
theorem dX10_restoreSnapshot_26 : decode cX10_restoreSnapshot 26 = .ok (.getfield 22, 3) := by decide +kernel
theorem dX10_restoreSnapshot_29 : decode cX10_restoreSnapshot 29 = .ok (.aload_n 0, 1) := by decide +kernel
theorem dX10_restoreSnapshot_30 : decode cX10_restoreSnapshot 30 = .ok (.getfield 10, 3) := by decide +kernel
theorem dX10_restoreSnapshot_33 : decode cX10_restoreSnapshot 33 = .ok (.invokevirtual 97, 3) := by decide +kernel
theorem dX10_restoreSnapshot_36 : decode cX10_restoreSnapshot 36 = .ok (.aload_n 0, 1) := by decide +kernel
theorem dX10_restoreSnapshot_37 : decode cX10_restoreSnapshot 37 = .ok (.getfield 10, 3) := by decide +kernel
theorem dX10_restoreSnapshot_40 : decode cX10_restoreSnapshot 40 = .ok (.aload_n 0, 1) := by decide +kernel
theorem dX10_restoreSnapshot_41 : decode cX10_restoreSnapshot 41 = .ok (.getfield 26, 3) := by decide +kernel
theorem dX10_restoreSnapshot_44 : decode cX10_restoreSnapshot 44 = .ok (.iload_n 1, 1) := by decide +kernel
theorem dX10_restoreSnapshot_45 : decode cX10_restoreSnapshot 45 = .ok (.aaload, 1) := by decide +kernel
theorem dX10_restoreSnapshot_46 : decode cX10_restoreSnapshot 46 = .ok (.invokevirtual 101, 3) := by decide +kernel
theorem dX10_restoreSnapshot_49 : decode cX10_restoreSnapshot 49 = .ok (.aload_n 0, 1) := by decide +kernel
theorem dX10_restoreSnapshot_50 : decode cX10_restoreSnapshot 50 = .ok (.getfield 10, 3) := by decide +kernel
theorem dX10_restoreSnapshot_53 : decode cX10_restoreSnapshot 53 = .ok (.getfield 225, 3) := by decide +kernel
theorem dX10_restoreSnapshot_56 : decode cX10_restoreSnapshot 56 = .ok (.getfield 229, 3) := by decide +kernel
theorem dX10_restoreSnapshot_59 : decode cX10_restoreSnapshot 59 = .ok (.ireturn, 1) := by decide +kernel
theorem dX10_minute_0 : decode cX10_minute 0 = .ok (.aload_n 0, 1) := by decide +kernel
theorem dX10_minute_1 : decode cX10_minute 1 = .ok (.getfield 10, 3) := by decide +kernel
theorem dX10_minute_4 : decode cX10_minute 4 = .ok (.getfield 225, 3) := by decide +kernel
theorem dX10_minute_7 : decode cX10_minute 7 = .ok (.getfield 229, 3) := by decide +kernel
theorem dX10_minute_10 : decode cX10_minute 10 = .ok (.ireturn, 1) := by decide +kernel
theorem dX10_isOpen_0 : decode cX10_isOpen 0 = .ok (.aload_n 0, 1) := by decide +kernel
theorem dX10_isOpen_1 : decode cX10_isOpen 1 = .ok (.getfield 10, 3) := by decide +kernel
theorem dX10_isOpen_4 : decode cX10_isOpen 4 = .ok (.getfield 225, 3) := by decide +kernel
theorem dX10_isOpen_7 : decode cX10_isOpen 7 = .ok (.invokevirtual 234, 3) := by decide +kernel
theorem dX10_isOpen_10 : decode cX10_isOpen 10 = .ok (.ireturn, 1) := by decide +kernel
theorem dX10_minutesToHorn_0 : decode cX10_minutesToHorn 0 = .ok (.aload_n 0, 1) := by decide +kernel
theorem dX10_minutesToHorn_1 : decode cX10_minutesToHorn 1 = .ok (.getfield 10, 3) := by decide +kernel
theorem dX10_minutesToHorn_4 : decode cX10_minutesToHorn 4 = .ok (.getfield 225, 3) := by decide +kernel
theorem dX10_minutesToHorn_7 : decode cX10_minutesToHorn 7 = .ok (.invokevirtual 237, 3) := by decide +kernel
theorem dX10_minutesToHorn_10 : decode cX10_minutesToHorn 10 = .ok (.ireturn, 1) := by decide +kernel
theorem dX10_step_0 : decode cX10_step 0 = .ok (.aload_n 0, 1) := by decide +kernel
theorem dX10_step_1 : decode cX10_step 1 = .ok (.getfield 10, 3) := by decide +kernel
theorem dX10_step_4 : decode cX10_step 4 = .ok (.getfield 203, 3) := by decide +kernel
theorem dX10_step_7 : decode cX10_step 7 = .ok (.ireturn, 1) := by decide +kernel
theorem dX10_sellerCoins_0 : decode cX10_sellerCoins 0 = .ok (.aload_n 0, 1) := by decide +kernel
theorem dX10_sellerCoins_1 : decode cX10_sellerCoins 1 = .ok (.getfield 10, 3) := by decide +kernel
theorem dX10_sellerCoins_4 : decode cX10_sellerCoins 4 = .ok (.getfield 241, 3) := by decide +kernel
theorem dX10_sellerCoins_7 : decode cX10_sellerCoins 7 = .ok (.ireturn, 1) := by decide +kernel
theorem dX10_houseCoins_0 : decode cX10_houseCoins 0 = .ok (.aload_n 0, 1) := by decide +kernel
theorem dX10_houseCoins_1 : decode cX10_houseCoins 1 = .ok (.getfield 10, 3) := by decide +kernel
theorem dX10_houseCoins_4 : decode cX10_houseCoins 4 = .ok (.getfield 244, 3) := by decide +kernel
theorem dX10_houseCoins_7 : decode cX10_houseCoins 7 = .ok (.ireturn, 1) := by decide +kernel
theorem dX10_openBarrel_0 : decode cX10_openBarrel 0 = .ok (.aload_n 0, 1) := by decide +kernel
theorem dX10_openBarrel_1 : decode cX10_openBarrel 1 = .ok (.getfield 10, 3) := by decide +kernel
theorem dX10_openBarrel_4 : decode cX10_openBarrel 4 = .ok (.getfield 247, 3) := by decide +kernel
theorem dX10_openBarrel_7 : decode cX10_openBarrel 7 = .ok (.ireturn, 1) := by decide +kernel
theorem dX10_bid_0 : decode cX10_bid 0 = .ok (.aload_n 0, 1) := by decide +kernel
theorem dX10_bid_1 : decode cX10_bid 1 = .ok (.getfield 10, 3) := by decide +kernel
theorem dX10_bid_4 : decode cX10_bid 4 = .ok (.getfield 141, 3) := by decide +kernel
theorem dX10_bid_7 : decode cX10_bid 7 = .ok (.ireturn, 1) := by decide +kernel
theorem dX10_leader_0 : decode cX10_leader 0 = .ok (.aload_n 0, 1) := by decide +kernel
theorem dX10_leader_1 : decode cX10_leader 1 = .ok (.getfield 10, 3) := by decide +kernel
theorem dX10_leader_4 : decode cX10_leader 4 = .ok (.getfield 250, 3) := by decide +kernel
theorem dX10_leader_7 : decode cX10_leader 7 = .ok (.ireturn, 1) := by decide +kernel
theorem dX10_nextBid_0 : decode cX10_nextBid 0 = .ok (.aload_n 0, 1) := by decide +kernel
theorem dX10_nextBid_1 : decode cX10_nextBid 1 = .ok (.getfield 10, 3) := by decide +kernel
theorem dX10_nextBid_4 : decode cX10_nextBid 4 = .ok (.invokevirtual 253, 3) := by decide +kernel
theorem dX10_nextBid_7 : decode cX10_nextBid 7 = .ok (.ireturn, 1) := by decide +kernel
theorem dX10_quiet_0 : decode cX10_quiet 0 = .ok (.aload_n 0, 1) := by decide +kernel
theorem dX10_quiet_1 : decode cX10_quiet 1 = .ok (.getfield 10, 3) := by decide +kernel
theorem dX10_quiet_4 : decode cX10_quiet 4 = .ok (.getfield 256, 3) := by decide +kernel
theorem dX10_quiet_7 : decode cX10_quiet 7 = .ok (.ireturn, 1) := by decide +kernel
theorem dX10_queueLength_0 : decode cX10_queueLength 0 = .ok (.aload_n 0, 1) := by decide +kernel
theorem dX10_queueLength_1 : decode cX10_queueLength 1 = .ok (.getfield 10, 3) := by decide +kernel
theorem dX10_queueLength_4 : decode cX10_queueLength 4 = .ok (.getfield 178, 3) := by decide +kernel
theorem dX10_queueLength_7 : decode cX10_queueLength 7 = .ok (.ireturn, 1) := by decide +kernel
theorem dX10_queuedBarrel_0 : decode cX10_queuedBarrel 0 = .ok (.iload_n 1, 1) := by decide +kernel
theorem dX10_queuedBarrel_1 : decode cX10_queuedBarrel 1 = .ok (.ifCond .lt 14, 3) := by decide +kernel
theorem dX10_queuedBarrel_4 : decode cX10_queuedBarrel 4 = .ok (.iload_n 1, 1) := by decide +kernel
theorem dX10_queuedBarrel_5 : decode cX10_queuedBarrel 5 = .ok (.aload_n 0, 1) := by decide +kernel
theorem dX10_queuedBarrel_6 : decode cX10_queuedBarrel 6 = .ok (.getfield 10, 3) := by decide +kernel
theorem dX10_queuedBarrel_9 : decode cX10_queuedBarrel 9 = .ok (.getfield 178, 3) := by decide +kernel
theorem dX10_queuedBarrel_12 : decode cX10_queuedBarrel 12 = .ok (.if_icmp .lt 5, 3) := by decide +kernel
theorem dX10_queuedBarrel_15 : decode cX10_queuedBarrel 15 = .ok (.iconst (-1), 1) := by decide +kernel
theorem dX10_queuedBarrel_16 : decode cX10_queuedBarrel 16 = .ok (.ireturn, 1) := by decide +kernel
theorem dX10_queuedBarrel_17 : decode cX10_queuedBarrel 17 = .ok (.aload_n 0, 1) := by decide +kernel
theorem dX10_queuedBarrel_18 : decode cX10_queuedBarrel 18 = .ok (.getfield 10, 3) := by decide +kernel
theorem dX10_queuedBarrel_21 : decode cX10_queuedBarrel 21 = .ok (.getfield 259, 3) := by decide +kernel
theorem dX10_queuedBarrel_24 : decode cX10_queuedBarrel 24 = .ok (.iload_n 1, 1) := by decide +kernel
theorem dX10_queuedBarrel_25 : decode cX10_queuedBarrel 25 = .ok (.iaload, 1) := by decide +kernel
theorem dX10_queuedBarrel_26 : decode cX10_queuedBarrel 26 = .ok (.ireturn, 1) := by decide +kernel
theorem dX10_barrelCount_0 : decode cX10_barrelCount 0 = .ok (.aload_n 0, 1) := by decide +kernel
theorem dX10_barrelCount_1 : decode cX10_barrelCount 1 = .ok (.getfield 10, 3) := by decide +kernel
theorem dX10_barrelCount_4 : decode cX10_barrelCount 4 = .ok (.getfield 104, 3) := by decide +kernel
theorem dX10_barrelCount_7 : decode cX10_barrelCount 7 = .ok (.ireturn, 1) := by decide +kernel
theorem dX10_eels_0 : decode cX10_eels 0 = .ok (.aload_n 0, 1) := by decide +kernel
theorem dX10_eels_1 : decode cX10_eels 1 = .ok (.iload_n 1, 1) := by decide +kernel
theorem dX10_eels_2 : decode cX10_eels 2 = .ok (.invokevirtual 262, 3) := by decide +kernel
theorem dX10_eels_5 : decode cX10_eels 5 = .ok (.getfield 266, 3) := by decide +kernel
theorem dX10_eels_8 : decode cX10_eels 8 = .ok (.ireturn, 1) := by decide +kernel
theorem dX10_length_0 : decode cX10_length 0 = .ok (.aload_n 0, 1) := by decide +kernel
theorem dX10_length_1 : decode cX10_length 1 = .ok (.iload_n 1, 1) := by decide +kernel
theorem dX10_length_2 : decode cX10_length 2 = .ok (.invokevirtual 262, 3) := by decide +kernel
theorem dX10_length_5 : decode cX10_length 5 = .ok (.astore_n 3, 1) := by decide +kernel
theorem dX10_length_6 : decode cX10_length 6 = .ok (.iload_n 2, 1) := by decide +kernel
theorem dX10_length_7 : decode cX10_length 7 = .ok (.ifCond .lt 11, 3) := by decide +kernel
theorem dX10_length_10 : decode cX10_length 10 = .ok (.iload_n 2, 1) := by decide +kernel
theorem dX10_length_11 : decode cX10_length 11 = .ok (.aload_n 3, 1) := by decide +kernel
theorem dX10_length_12 : decode cX10_length 12 = .ok (.getfield 266, 3) := by decide +kernel
theorem dX10_length_15 : decode cX10_length 15 = .ok (.if_icmp .lt 14, 3) := by decide +kernel
theorem dX10_length_18 : decode cX10_length 18 = .ok (.new 269, 3) := by decide +kernel
theorem dX10_length_21 : decode cX10_length 21 = .ok (.dup, 1) := by decide +kernel
theorem dX10_length_22 : decode cX10_length 22 = .ok (.ldc_w 271, 3) := by decide +kernel
theorem dX10_length_25 : decode cX10_length 25 = .ok (.invokespecial 273, 3) := by decide +kernel
theorem dX10_length_28 : decode cX10_length 28 = .ok (.athrow, 1) := by decide +kernel
theorem dX10_length_29 : decode cX10_length 29 = .ok (.aload_n 3, 1) := by decide +kernel
theorem dX10_length_30 : decode cX10_length 30 = .ok (.getfield 274, 3) := by decide +kernel
theorem dX10_length_33 : decode cX10_length 33 = .ok (.iload_n 2, 1) := by decide +kernel
theorem dX10_length_34 : decode cX10_length 34 = .ok (.iaload, 1) := by decide +kernel
theorem dX10_length_35 : decode cX10_length 35 = .ok (.ireturn, 1) := by decide +kernel
theorem dX10_totalLength_0 : decode cX10_totalLength 0 = .ok (.aload_n 0, 1) := by decide +kernel
theorem dX10_totalLength_1 : decode cX10_totalLength 1 = .ok (.iload_n 1, 1) := by decide +kernel
theorem dX10_totalLength_2 : decode cX10_totalLength 2 = .ok (.invokevirtual 262, 3) := by decide +kernel
theorem dX10_totalLength_5 : decode cX10_totalLength 5 = .ok (.getfield 277, 3) := by decide +kernel
theorem dX10_totalLength_8 : decode cX10_totalLength 8 = .ok (.ireturn, 1) := by decide +kernel
theorem dX10_greatestLength_0 : decode cX10_greatestLength 0 = .ok (.aload_n 0, 1) := by decide +kernel
theorem dX10_greatestLength_1 : decode cX10_greatestLength 1 = .ok (.iload_n 1, 1) := by decide +kernel
theorem dX10_greatestLength_2 : decode cX10_greatestLength 2 = .ok (.invokevirtual 262, 3) := by decide +kernel
theorem dX10_greatestLength_5 : decode cX10_greatestLength 5 = .ok (.getfield 280, 3) := by decide +kernel
theorem dX10_greatestLength_8 : decode cX10_greatestLength 8 = .ok (.ireturn, 1) := by decide +kernel
theorem dX10_middleLength_0 : decode cX10_middleLength 0 = .ok (.aload_n 0, 1) := by decide +kernel
theorem dX10_middleLength_1 : decode cX10_middleLength 1 = .ok (.iload_n 1, 1) := by decide +kernel
theorem dX10_middleLength_2 : decode cX10_middleLength 2 = .ok (.invokevirtual 262, 3) := by decide +kernel
theorem dX10_middleLength_5 : decode cX10_middleLength 5 = .ok (.aload_n 0, 1) := by decide +kernel
theorem dX10_middleLength_6 : decode cX10_middleLength 6 = .ok (.iload_n 1, 1) := by decide +kernel
theorem dX10_middleLength_7 : decode cX10_middleLength 7 = .ok (.invokevirtual 262, 3) := by decide +kernel
theorem dX10_middleLength_10 : decode cX10_middleLength 10 = .ok (.getfield 266, 3) := by decide +kernel
theorem dX10_middleLength_13 : decode cX10_middleLength 13 = .ok (.iconst 1, 1) := by decide +kernel
theorem dX10_middleLength_14 : decode cX10_middleLength 14 = .ok (.isub, 1) := by decide +kernel
theorem dX10_middleLength_15 : decode cX10_middleLength 15 = .ok (.iconst 2, 1) := by decide +kernel
theorem dX10_middleLength_16 : decode cX10_middleLength 16 = .ok (.idiv, 1) := by decide +kernel
theorem dX10_middleLength_17 : decode cX10_middleLength 17 = .ok (.invokevirtual 283, 3) := by decide +kernel
theorem dX10_middleLength_20 : decode cX10_middleLength 20 = .ok (.ireturn, 1) := by decide +kernel
theorem dX10_reserve_0 : decode cX10_reserve 0 = .ok (.aload_n 0, 1) := by decide +kernel
theorem dX10_reserve_1 : decode cX10_reserve 1 = .ok (.iload_n 1, 1) := by decide +kernel
theorem dX10_reserve_2 : decode cX10_reserve 2 = .ok (.invokevirtual 262, 3) := by decide +kernel
theorem dX10_reserve_5 : decode cX10_reserve 5 = .ok (.getfield 198, 3) := by decide +kernel
theorem dX10_reserve_8 : decode cX10_reserve 8 = .ok (.ireturn, 1) := by decide +kernel
theorem dX10_stateOf_0 : decode cX10_stateOf 0 = .ok (.aload_n 0, 1) := by decide +kernel
theorem dX10_stateOf_1 : decode cX10_stateOf 1 = .ok (.iload_n 1, 1) := by decide +kernel
theorem dX10_stateOf_2 : decode cX10_stateOf 2 = .ok (.invokevirtual 262, 3) := by decide +kernel
theorem dX10_stateOf_5 : decode cX10_stateOf 5 = .ok (.getfield 286, 3) := by decide +kernel
theorem dX10_stateOf_8 : decode cX10_stateOf 8 = .ok (.ireturn, 1) := by decide +kernel
theorem dX10_returns_0 : decode cX10_returns 0 = .ok (.aload_n 0, 1) := by decide +kernel
theorem dX10_returns_1 : decode cX10_returns 1 = .ok (.iload_n 1, 1) := by decide +kernel
theorem dX10_returns_2 : decode cX10_returns 2 = .ok (.invokevirtual 262, 3) := by decide +kernel
theorem dX10_returns_5 : decode cX10_returns 5 = .ok (.getfield 289, 3) := by decide +kernel
theorem dX10_returns_8 : decode cX10_returns 8 = .ok (.ireturn, 1) := by decide +kernel
theorem dX10_buyerOf_0 : decode cX10_buyerOf 0 = .ok (.aload_n 0, 1) := by decide +kernel
theorem dX10_buyerOf_1 : decode cX10_buyerOf 1 = .ok (.iload_n 1, 1) := by decide +kernel
theorem dX10_buyerOf_2 : decode cX10_buyerOf 2 = .ok (.invokevirtual 262, 3) := by decide +kernel
theorem dX10_buyerOf_5 : decode cX10_buyerOf 5 = .ok (.getfield 292, 3) := by decide +kernel
theorem dX10_buyerOf_8 : decode cX10_buyerOf 8 = .ok (.ireturn, 1) := by decide +kernel
theorem dX10_priceOf_0 : decode cX10_priceOf 0 = .ok (.aload_n 0, 1) := by decide +kernel
theorem dX10_priceOf_1 : decode cX10_priceOf 1 = .ok (.iload_n 1, 1) := by decide +kernel
theorem dX10_priceOf_2 : decode cX10_priceOf 2 = .ok (.invokevirtual 262, 3) := by decide +kernel
theorem dX10_priceOf_5 : decode cX10_priceOf 5 = .ok (.getfield 295, 3) := by decide +kernel
theorem dX10_priceOf_8 : decode cX10_priceOf 8 = .ok (.ireturn, 1) := by decide +kernel
theorem dX10_pricePerLength_0 : decode cX10_pricePerLength 0 = .ok (.aload_n 0, 1) := by decide +kernel
theorem dX10_pricePerLength_1 : decode cX10_pricePerLength 1 = .ok (.iload_n 1, 1) := by decide +kernel
theorem dX10_pricePerLength_2 : decode cX10_pricePerLength 2 = .ok (.invokevirtual 262, 3) := by decide +kernel
theorem dX10_pricePerLength_5 : decode cX10_pricePerLength 5 = .ok (.astore_n 2, 1) := by decide +kernel
theorem dX10_pricePerLength_6 : decode cX10_pricePerLength 6 = .ok (.aload_n 2, 1) := by decide +kernel
theorem dX10_pricePerLength_7 : decode cX10_pricePerLength 7 = .ok (.getfield 286, 3) := by decide +kernel
theorem dX10_pricePerLength_10 : decode cX10_pricePerLength 10 = .ok (.iconst 2, 1) := by decide +kernel
theorem dX10_pricePerLength_11 : decode cX10_pricePerLength 11 = .ok (.if_icmp .ne 10, 3) := by decide +kernel
theorem dX10_pricePerLength_14 : decode cX10_pricePerLength 14 = .ok (.aload_n 2, 1) := by decide +kernel
theorem dX10_pricePerLength_15 : decode cX10_pricePerLength 15 = .ok (.getfield 277, 3) := by decide +kernel
theorem dX10_pricePerLength_18 : decode cX10_pricePerLength 18 = .ok (.ifCond .ne 5, 3) := by decide +kernel
theorem dX10_pricePerLength_21 : decode cX10_pricePerLength 21 = .ok (.fconst 0, 1) := by decide +kernel
theorem dX10_pricePerLength_22 : decode cX10_pricePerLength 22 = .ok (.freturn, 1) := by decide +kernel
theorem dX10_pricePerLength_23 : decode cX10_pricePerLength 23 = .ok (.aload_n 2, 1) := by decide +kernel
theorem dX10_pricePerLength_24 : decode cX10_pricePerLength 24 = .ok (.getfield 295, 3) := by decide +kernel
theorem dX10_pricePerLength_27 : decode cX10_pricePerLength 27 = .ok (.i2f, 1) := by decide +kernel
theorem dX10_pricePerLength_28 : decode cX10_pricePerLength 28 = .ok (.aload_n 2, 1) := by decide +kernel
theorem dX10_pricePerLength_29 : decode cX10_pricePerLength 29 = .ok (.getfield 277, 3) := by decide +kernel
theorem dX10_pricePerLength_32 : decode cX10_pricePerLength 32 = .ok (.i2f, 1) := by decide +kernel
theorem dX10_pricePerLength_33 : decode cX10_pricePerLength 33 = .ok (.fdiv, 1) := by decide +kernel
theorem dX10_pricePerLength_34 : decode cX10_pricePerLength 34 = .ok (.freturn, 1) := by decide +kernel
theorem dX10_buyerCount_0 : decode cX10_buyerCount 0 = .ok (.aload_n 0, 1) := by decide +kernel
theorem dX10_buyerCount_1 : decode cX10_buyerCount 1 = .ok (.getfield 10, 3) := by decide +kernel
theorem dX10_buyerCount_4 : decode cX10_buyerCount 4 = .ok (.getfield 107, 3) := by decide +kernel
theorem dX10_buyerCount_7 : decode cX10_buyerCount 7 = .ok (.ireturn, 1) := by decide +kernel
theorem dX10_purse_0 : decode cX10_purse 0 = .ok (.aload_n 0, 1) := by decide +kernel
theorem dX10_purse_1 : decode cX10_purse 1 = .ok (.iload_n 1, 1) := by decide +kernel
theorem dX10_purse_2 : decode cX10_purse 2 = .ok (.invokevirtual 298, 3) := by decide +kernel
theorem dX10_purse_5 : decode cX10_purse 5 = .ok (.getfield 189, 3) := by decide +kernel
theorem dX10_purse_8 : decode cX10_purse 8 = .ok (.ireturn, 1) := by decide +kernel
theorem dX10_style_0 : decode cX10_style 0 = .ok (.aload_n 0, 1) := by decide +kernel
theorem dX10_style_1 : decode cX10_style 1 = .ok (.iload_n 1, 1) := by decide +kernel
theorem dX10_style_2 : decode cX10_style 2 = .ok (.invokevirtual 298, 3) := by decide +kernel
theorem dX10_style_5 : decode cX10_style 5 = .ok (.getfield 206, 3) := by decide +kernel
theorem dX10_style_8 : decode cX10_style 8 = .ok (.ireturn, 1) := by decide +kernel
theorem dX10_factor_0 : decode cX10_factor 0 = .ok (.aload_n 0, 1) := by decide +kernel
theorem dX10_factor_1 : decode cX10_factor 1 = .ok (.iload_n 1, 1) := by decide +kernel
theorem dX10_factor_2 : decode cX10_factor 2 = .ok (.invokevirtual 298, 3) := by decide +kernel
theorem dX10_factor_5 : decode cX10_factor 5 = .ok (.getfield 209, 3) := by decide +kernel
theorem dX10_factor_8 : decode cX10_factor 8 = .ok (.ireturn, 1) := by decide +kernel
theorem dX10_bought_0 : decode cX10_bought 0 = .ok (.aload_n 0, 1) := by decide +kernel
theorem dX10_bought_1 : decode cX10_bought 1 = .ok (.iload_n 1, 1) := by decide +kernel
theorem dX10_bought_2 : decode cX10_bought 2 = .ok (.invokevirtual 298, 3) := by decide +kernel
theorem dX10_bought_5 : decode cX10_bought 5 = .ok (.getfield 302, 3) := by decide +kernel
theorem dX10_bought_8 : decode cX10_bought 8 = .ok (.ireturn, 1) := by decide +kernel
theorem dX10_nods_0 : decode cX10_nods 0 = .ok (.aload_n 0, 1) := by decide +kernel
theorem dX10_nods_1 : decode cX10_nods 1 = .ok (.iload_n 1, 1) := by decide +kernel
theorem dX10_nods_2 : decode cX10_nods 2 = .ok (.invokevirtual 298, 3) := by decide +kernel
theorem dX10_nods_5 : decode cX10_nods 5 = .ok (.getfield 305, 3) := by decide +kernel
theorem dX10_nods_8 : decode cX10_nods 8 = .ok (.ireturn, 1) := by decide +kernel
theorem dX10_worth_0 : decode cX10_worth 0 = .ok (.aload_n 0, 1) := by decide +kernel
theorem dX10_worth_1 : decode cX10_worth 1 = .ok (.iload_n 1, 1) := by decide +kernel
theorem dX10_worth_2 : decode cX10_worth 2 = .ok (.invokevirtual 298, 3) := by decide +kernel
theorem dX10_worth_5 : decode cX10_worth 5 = .ok (.aload_n 0, 1) := by decide +kernel
theorem dX10_worth_6 : decode cX10_worth 6 = .ok (.iload_n 2, 1) := by decide +kernel
theorem dX10_worth_7 : decode cX10_worth 7 = .ok (.invokevirtual 262, 3) := by decide +kernel
theorem dX10_worth_10 : decode cX10_worth 10 = .ok (.invokevirtual 308, 3) := by decide +kernel
theorem dX10_worth_13 : decode cX10_worth 13 = .ok (.dreturn, 1) := by decide +kernel
theorem dX10_whyNotNod_0 : decode cX10_whyNotNod 0 = .ok (.aload_n 0, 1) := by decide +kernel
theorem dX10_whyNotNod_1 : decode cX10_whyNotNod 1 = .ok (.iload_n 1, 1) := by decide +kernel
theorem dX10_whyNotNod_2 : decode cX10_whyNotNod 2 = .ok (.invokevirtual 127, 3) := by decide +kernel
theorem dX10_whyNotNod_5 : decode cX10_whyNotNod 5 = .ok (.aload_n 0, 1) := by decide +kernel
theorem dX10_whyNotNod_6 : decode cX10_whyNotNod 6 = .ok (.getfield 10, 3) := by decide +kernel
theorem dX10_whyNotNod_9 : decode cX10_whyNotNod 9 = .ok (.iload_n 1, 1) := by decide +kernel
theorem dX10_whyNotNod_10 : decode cX10_whyNotNod 10 = .ok (.invokevirtual 130, 3) := by decide +kernel
theorem dX10_whyNotNod_13 : decode cX10_whyNotNod 13 = .ok (.ireturn, 1) := by decide +kernel
theorem dX10_costOf_0 : decode cX10_costOf 0 = .ok (.iload_n 1, 1) := by decide +kernel
theorem dX10_costOf_1 : decode cX10_costOf 1 = .ok (.iconst 0, 1) := by decide +kernel
theorem dX10_costOf_2 : decode cX10_costOf 2 = .ok (.sipush 9999, 3) := by decide +kernel
theorem dX10_costOf_5 : decode cX10_costOf 5 = .ok (.invokestatic 82, 3) := by decide +kernel
theorem dX10_costOf_8 : decode cX10_costOf 8 = .ok (.aload_n 0, 1) := by decide +kernel
theorem dX10_costOf_9 : decode cX10_costOf 9 = .ok (.getfield 10, 3) := by decide +kernel
theorem dX10_costOf_12 : decode cX10_costOf 12 = .ok (.iload_n 1, 1) := by decide +kernel
theorem dX10_costOf_13 : decode cX10_costOf 13 = .ok (.invokevirtual 312, 3) := by decide +kernel
theorem dX10_costOf_16 : decode cX10_costOf 16 = .ok (.ireturn, 1) := by decide +kernel
theorem dX10_nextNodder_0 : decode cX10_nextNodder 0 = .ok (.aload_n 0, 1) := by decide +kernel
theorem dX10_nextNodder_1 : decode cX10_nextNodder 1 = .ok (.getfield 10, 3) := by decide +kernel
theorem dX10_nextNodder_4 : decode cX10_nextNodder 4 = .ok (.invokevirtual 315, 3) := by decide +kernel
theorem dX10_nextNodder_7 : decode cX10_nextNodder 7 = .ok (.ireturn, 1) := by decide +kernel
theorem dX10_keenestBuyer_0 : decode cX10_keenestBuyer 0 = .ok (.aload_n 0, 1) := by decide +kernel
theorem dX10_keenestBuyer_1 : decode cX10_keenestBuyer 1 = .ok (.getfield 10, 3) := by decide +kernel
theorem dX10_keenestBuyer_4 : decode cX10_keenestBuyer 4 = .ok (.aload_n 0, 1) := by decide +kernel
theorem dX10_keenestBuyer_5 : decode cX10_keenestBuyer 5 = .ok (.iload_n 1, 1) := by decide +kernel
theorem dX10_keenestBuyer_6 : decode cX10_keenestBuyer 6 = .ok (.invokevirtual 262, 3) := by decide +kernel
theorem dX10_keenestBuyer_9 : decode cX10_keenestBuyer 9 = .ok (.invokevirtual 318, 3) := by decide +kernel
theorem dX10_keenestBuyer_12 : decode cX10_keenestBuyer 12 = .ok (.ireturn, 1) := by decide +kernel
theorem dX10_minutesToSale_0 : decode cX10_minutesToSale 0 = .ok (.aload_n 0, 1) := by decide +kernel
theorem dX10_minutesToSale_1 : decode cX10_minutesToSale 1 = .ok (.iload_n 1, 1) := by decide +kernel
theorem dX10_minutesToSale_2 : decode cX10_minutesToSale 2 = .ok (.invokevirtual 262, 3) := by decide +kernel
theorem dX10_minutesToSale_5 : decode cX10_minutesToSale 5 = .ok (.getfield 286, 3) := by decide +kernel
theorem dX10_minutesToSale_8 : decode cX10_minutesToSale 8 = .ok (.iconst 2, 1) := by decide +kernel
theorem dX10_minutesToSale_9 : decode cX10_minutesToSale 9 = .ok (.if_icmp .ne 5, 3) := by decide +kernel
theorem dX10_minutesToSale_12 : decode cX10_minutesToSale 12 = .ok (.iconst 0, 1) := by decide +kernel
theorem dX10_minutesToSale_13 : decode cX10_minutesToSale 13 = .ok (.ireturn, 1) := by decide +kernel
theorem dX10_minutesToSale_14 : decode cX10_minutesToSale 14 = .ok (.aload_n 0, 1) := by decide +kernel
theorem dX10_minutesToSale_15 : decode cX10_minutesToSale 15 = .ok (.getfield 16, 3) := by decide +kernel
theorem dX10_minutesToSale_18 : decode cX10_minutesToSale 18 = .ok (.aload_n 0, 1) := by decide +kernel
theorem dX10_minutesToSale_19 : decode cX10_minutesToSale 19 = .ok (.getfield 10, 3) := by decide +kernel
theorem dX10_minutesToSale_22 : decode cX10_minutesToSale 22 = .ok (.invokevirtual 101, 3) := by decide +kernel
theorem dX10_minutesToSale_25 : decode cX10_minutesToSale 25 = .ok (.aload_n 0, 1) := by decide +kernel
theorem dX10_minutesToSale_26 : decode cX10_minutesToSale 26 = .ok (.getfield 16, 3) := by decide +kernel
theorem dX10_minutesToSale_29 : decode cX10_minutesToSale 29 = .ok (.getfield 194, 3) := by decide +kernel
theorem dX10_minutesToSale_32 : decode cX10_minutesToSale 32 = .ok (.iload_n 1, 1) := by decide +kernel
theorem dX10_minutesToSale_33 : decode cX10_minutesToSale 33 = .ok (.aaload, 1) := by decide +kernel
theorem dX10_minutesToSale_34 : decode cX10_minutesToSale 34 = .ok (.astore_n 2, 1) := by decide +kernel
theorem dX10_minutesToSale_35 : decode cX10_minutesToSale 35 = .ok (.iconst 1, 1) := by decide +kernel
theorem dX10_minutesToSale_36 : decode cX10_minutesToSale 36 = .ok (.istore_n 3, 1) := by decide +kernel
theorem dX10_minutesToSale_37 : decode cX10_minutesToSale 37 = .ok (.iload_n 3, 1) := by decide +kernel
theorem dX10_minutesToSale_38 : decode cX10_minutesToSale 38 = .ok (.sipush 500, 3) := by decide +kernel
theorem dX10_minutesToSale_41 : decode cX10_minutesToSale 41 = .ok (.if_icmp .gt 28, 3) := by decide +kernel
theorem dX10_minutesToSale_44 : decode cX10_minutesToSale 44 = .ok (.aload_n 0, 1) := by decide +kernel
theorem dX10_minutesToSale_45 : decode cX10_minutesToSale 45 = .ok (.getfield 16, 3) := by decide +kernel
theorem dX10_minutesToSale_48 : decode cX10_minutesToSale 48 = .ok (.iconst 1, 1) := by decide +kernel
theorem dX10_minutesToSale_49 : decode cX10_minutesToSale 49 = .ok (.invokevirtual 144, 3) := by decide +kernel
theorem dX10_minutesToSale_52 : decode cX10_minutesToSale 52 = .ok (.pop, 1) := by decide +kernel
theorem dX10_minutesToSale_53 : decode cX10_minutesToSale 53 = .ok (.aload_n 2, 1) := by decide +kernel
theorem dX10_minutesToSale_54 : decode cX10_minutesToSale 54 = .ok (.getfield 286, 3) := by decide +kernel
theorem dX10_minutesToSale_57 : decode cX10_minutesToSale 57 = .ok (.iconst 2, 1) := by decide +kernel
theorem dX10_minutesToSale_58 : decode cX10_minutesToSale 58 = .ok (.if_icmp .ne 5, 3) := by decide +kernel
theorem dX10_minutesToSale_61 : decode cX10_minutesToSale 61 = .ok (.iload_n 3, 1) := by decide +kernel
theorem dX10_minutesToSale_62 : decode cX10_minutesToSale 62 = .ok (.ireturn, 1) := by decide +kernel
theorem dX10_minutesToSale_63 : decode cX10_minutesToSale 63 = .ok (.iinc 3 1, 3) := by decide +kernel
theorem dX10_minutesToSale_66 : decode cX10_minutesToSale 66 = .ok (.goto (-29), 3) := by decide +kernel
theorem dX10_minutesToSale_69 : decode cX10_minutesToSale 69 = .ok (.iconst (-1), 1) := by decide +kernel
theorem dX10_minutesToSale_70 : decode cX10_minutesToSale 70 = .ok (.ireturn, 1) := by decide +kernel
theorem dX10_buyerAfter_0 : decode cX10_buyerAfter 0 = .ok (.aload_n 0, 1) := by decide +kernel
theorem dX10_buyerAfter_1 : decode cX10_buyerAfter 1 = .ok (.iload_n 1, 1) := by decide +kernel
theorem dX10_buyerAfter_2 : decode cX10_buyerAfter 2 = .ok (.invokevirtual 161, 3) := by decide +kernel
theorem dX10_buyerAfter_5 : decode cX10_buyerAfter 5 = .ok (.iload_n 2, 1) := by decide +kernel
theorem dX10_buyerAfter_6 : decode cX10_buyerAfter 6 = .ok (.iconst 0, 1) := by decide +kernel
theorem dX10_buyerAfter_7 : decode cX10_buyerAfter 7 = .ok (.sipush 500, 3) := by decide +kernel
theorem dX10_buyerAfter_10 : decode cX10_buyerAfter 10 = .ok (.invokestatic 82, 3) := by decide +kernel
theorem dX10_buyerAfter_13 : decode cX10_buyerAfter 13 = .ok (.aload_n 0, 1) := by decide +kernel
theorem dX10_buyerAfter_14 : decode cX10_buyerAfter 14 = .ok (.aload_n 0, 1) := by decide +kernel
theorem dX10_buyerAfter_15 : decode cX10_buyerAfter 15 = .ok (.getfield 10, 3) := by decide +kernel
theorem dX10_buyerAfter_18 : decode cX10_buyerAfter 18 = .ok (.getfield 203, 3) := by decide +kernel
theorem dX10_buyerAfter_21 : decode cX10_buyerAfter 21 = .ok (.iload_n 2, 1) := by decide +kernel
theorem dX10_buyerAfter_22 : decode cX10_buyerAfter 22 = .ok (.invokevirtual 322, 3) := by decide +kernel
theorem dX10_buyerAfter_25 : decode cX10_buyerAfter 25 = .ok (.aload_n 0, 1) := by decide +kernel
theorem dX10_buyerAfter_26 : decode cX10_buyerAfter 26 = .ok (.getfield 16, 3) := by decide +kernel
theorem dX10_buyerAfter_29 : decode cX10_buyerAfter 29 = .ok (.getfield 194, 3) := by decide +kernel
theorem dX10_buyerAfter_32 : decode cX10_buyerAfter 32 = .ok (.iload_n 1, 1) := by decide +kernel
theorem dX10_buyerAfter_33 : decode cX10_buyerAfter 33 = .ok (.aaload, 1) := by decide +kernel
theorem dX10_buyerAfter_34 : decode cX10_buyerAfter 34 = .ok (.getfield 292, 3) := by decide +kernel
theorem dX10_buyerAfter_37 : decode cX10_buyerAfter 37 = .ok (.ireturn, 1) := by decide +kernel
theorem dX10_sellerCoinsAfter_0 : decode cX10_sellerCoinsAfter 0 = .ok (.iload_n 1, 1) := by decide +kernel
theorem dX10_sellerCoinsAfter_1 : decode cX10_sellerCoinsAfter 1 = .ok (.iconst 0, 1) := by decide +kernel
theorem dX10_sellerCoinsAfter_2 : decode cX10_sellerCoinsAfter 2 = .ok (.sipush 500, 3) := by decide +kernel
theorem dX10_sellerCoinsAfter_5 : decode cX10_sellerCoinsAfter 5 = .ok (.invokestatic 82, 3) := by decide +kernel
theorem dX10_sellerCoinsAfter_8 : decode cX10_sellerCoinsAfter 8 = .ok (.aload_n 0, 1) := by decide +kernel
theorem dX10_sellerCoinsAfter_9 : decode cX10_sellerCoinsAfter 9 = .ok (.aload_n 0, 1) := by decide +kernel
theorem dX10_sellerCoinsAfter_10 : decode cX10_sellerCoinsAfter 10 = .ok (.getfield 10, 3) := by decide +kernel
theorem dX10_sellerCoinsAfter_13 : decode cX10_sellerCoinsAfter 13 = .ok (.getfield 203, 3) := by decide +kernel
theorem dX10_sellerCoinsAfter_16 : decode cX10_sellerCoinsAfter 16 = .ok (.iload_n 1, 1) := by decide +kernel
theorem dX10_sellerCoinsAfter_17 : decode cX10_sellerCoinsAfter 17 = .ok (.invokevirtual 322, 3) := by decide +kernel
theorem dX10_sellerCoinsAfter_20 : decode cX10_sellerCoinsAfter 20 = .ok (.aload_n 0, 1) := by decide +kernel
theorem dX10_sellerCoinsAfter_21 : decode cX10_sellerCoinsAfter 21 = .ok (.getfield 16, 3) := by decide +kernel
theorem dX10_sellerCoinsAfter_24 : decode cX10_sellerCoinsAfter 24 = .ok (.getfield 241, 3) := by decide +kernel
theorem dX10_sellerCoinsAfter_27 : decode cX10_sellerCoinsAfter 27 = .ok (.ireturn, 1) := by decide +kernel
theorem dX10_bestStep_0 : decode cX10_bestStep 0 = .ok (.iload_n 1, 1) := by decide +kernel
theorem dX10_bestStep_1 : decode cX10_bestStep 1 = .ok (.iconst 0, 1) := by decide +kernel
theorem dX10_bestStep_2 : decode cX10_bestStep 2 = .ok (.sipush 500, 3) := by decide +kernel
theorem dX10_bestStep_5 : decode cX10_bestStep 5 = .ok (.invokestatic 82, 3) := by decide +kernel
theorem dX10_bestStep_8 : decode cX10_bestStep 8 = .ok (.iconst (-1), 1) := by decide +kernel
theorem dX10_bestStep_9 : decode cX10_bestStep 9 = .ok (.istore_n 2, 1) := by decide +kernel
theorem dX10_bestStep_10 : decode cX10_bestStep 10 = .ok (.iconst (-1), 1) := by decide +kernel
theorem dX10_bestStep_11 : decode cX10_bestStep 11 = .ok (.istore_n 3, 1) := by decide +kernel
theorem dX10_bestStep_12 : decode cX10_bestStep 12 = .ok (.iconst 1, 1) := by decide +kernel
theorem dX10_bestStep_13 : decode cX10_bestStep 13 = .ok (.istore 4, 2) := by decide +kernel
theorem dX10_bestStep_15 : decode cX10_bestStep 15 = .ok (.iload 4, 2) := by decide +kernel
theorem dX10_bestStep_17 : decode cX10_bestStep 17 = .ok (.bipush 50, 2) := by decide +kernel
theorem dX10_bestStep_19 : decode cX10_bestStep 19 = .ok (.if_icmp .gt 38, 3) := by decide +kernel
theorem dX10_bestStep_22 : decode cX10_bestStep 22 = .ok (.aload_n 0, 1) := by decide +kernel
theorem dX10_bestStep_23 : decode cX10_bestStep 23 = .ok (.iload 4, 2) := by decide +kernel
theorem dX10_bestStep_25 : decode cX10_bestStep 25 = .ok (.iload_n 1, 1) := by decide +kernel
theorem dX10_bestStep_26 : decode cX10_bestStep 26 = .ok (.invokevirtual 322, 3) := by decide +kernel
theorem dX10_bestStep_29 : decode cX10_bestStep 29 = .ok (.aload_n 0, 1) := by decide +kernel
theorem dX10_bestStep_30 : decode cX10_bestStep 30 = .ok (.getfield 16, 3) := by decide +kernel
theorem dX10_bestStep_33 : decode cX10_bestStep 33 = .ok (.getfield 241, 3) := by decide +kernel
theorem dX10_bestStep_36 : decode cX10_bestStep 36 = .ok (.iload_n 3, 1) := by decide +kernel
theorem dX10_bestStep_37 : decode cX10_bestStep 37 = .ok (.if_icmp .le 14, 3) := by decide +kernel
theorem dX10_bestStep_40 : decode cX10_bestStep 40 = .ok (.iload 4, 2) := by decide +kernel
theorem dX10_bestStep_42 : decode cX10_bestStep 42 = .ok (.istore_n 2, 1) := by decide +kernel
theorem dX10_bestStep_43 : decode cX10_bestStep 43 = .ok (.aload_n 0, 1) := by decide +kernel
theorem dX10_bestStep_44 : decode cX10_bestStep 44 = .ok (.getfield 16, 3) := by decide +kernel
theorem dX10_bestStep_47 : decode cX10_bestStep 47 = .ok (.getfield 241, 3) := by decide +kernel
theorem dX10_bestStep_50 : decode cX10_bestStep 50 = .ok (.istore_n 3, 1) := by decide +kernel
theorem dX10_bestStep_51 : decode cX10_bestStep 51 = .ok (.iinc 4 1, 3) := by decide +kernel
theorem dX10_bestStep_54 : decode cX10_bestStep 54 = .ok (.goto (-39), 3) := by decide +kernel
theorem dX10_bestStep_57 : decode cX10_bestStep 57 = .ok (.iload_n 2, 1) := by decide +kernel
theorem dX10_bestStep_58 : decode cX10_bestStep 58 = .ok (.ireturn, 1) := by decide +kernel
theorem dX10_coinError_0 : decode cX10_coinError 0 = .ok (.aload_n 0, 1) := by decide +kernel
theorem dX10_coinError_1 : decode cX10_coinError 1 = .ok (.getfield 10, 3) := by decide +kernel
theorem dX10_coinError_4 : decode cX10_coinError 4 = .ok (.getfield 325, 3) := by decide +kernel
theorem dX10_coinError_7 : decode cX10_coinError 7 = .ok (.aload_n 0, 1) := by decide +kernel
theorem dX10_coinError_8 : decode cX10_coinError 8 = .ok (.getfield 10, 3) := by decide +kernel
theorem dX10_coinError_11 : decode cX10_coinError 11 = .ok (.invokevirtual 328, 3) := by decide +kernel
theorem dX10_coinError_14 : decode cX10_coinError 14 = .ok (.isub, 1) := by decide +kernel
theorem dX10_coinError_15 : decode cX10_coinError 15 = .ok (.aload_n 0, 1) := by decide +kernel
theorem dX10_coinError_16 : decode cX10_coinError 16 = .ok (.getfield 10, 3) := by decide +kernel
theorem dX10_coinError_19 : decode cX10_coinError 19 = .ok (.getfield 241, 3) := by decide +kernel
theorem dX10_coinError_22 : decode cX10_coinError 22 = .ok (.isub, 1) := by decide +kernel
theorem dX10_coinError_23 : decode cX10_coinError 23 = .ok (.aload_n 0, 1) := by decide +kernel
theorem dX10_coinError_24 : decode cX10_coinError 24 = .ok (.getfield 10, 3) := by decide +kernel
theorem dX10_coinError_27 : decode cX10_coinError 27 = .ok (.getfield 244, 3) := by decide +kernel
theorem dX10_coinError_30 : decode cX10_coinError 30 = .ok (.isub, 1) := by decide +kernel
theorem dX10_coinError_31 : decode cX10_coinError 31 = .ok (.ireturn, 1) := by decide +kernel
theorem dX10_meanLength_0 : decode cX10_meanLength 0 = .ok (.iconst 0, 1) := by decide +kernel
theorem dX10_meanLength_1 : decode cX10_meanLength 1 = .ok (.istore_n 1, 1) := by decide +kernel
theorem dX10_meanLength_2 : decode cX10_meanLength 2 = .ok (.iconst 0, 1) := by decide +kernel
theorem dX10_meanLength_3 : decode cX10_meanLength 3 = .ok (.istore_n 2, 1) := by decide +kernel
theorem dX10_meanLength_4 : decode cX10_meanLength 4 = .ok (.iconst 0, 1) := by decide +kernel
theorem dX10_meanLength_5 : decode cX10_meanLength 5 = .ok (.istore_n 3, 1) := by decide +kernel
theorem dX10_meanLength_6 : decode cX10_meanLength 6 = .ok (.iload_n 3, 1) := by decide +kernel
theorem dX10_meanLength_7 : decode cX10_meanLength 7 = .ok (.aload_n 0, 1) := by decide +kernel
theorem dX10_meanLength_8 : decode cX10_meanLength 8 = .ok (.getfield 10, 3) := by decide +kernel
theorem dX10_meanLength_11 : decode cX10_meanLength 11 = .ok (.getfield 104, 3) := by decide +kernel
theorem dX10_meanLength_14 : decode cX10_meanLength 14 = .ok (.if_icmp .ge 39, 3) := by decide +kernel
theorem dX10_meanLength_17 : decode cX10_meanLength 17 = .ok (.iload_n 1, 1) := by decide +kernel
theorem dX10_meanLength_18 : decode cX10_meanLength 18 = .ok (.aload_n 0, 1) := by decide +kernel
theorem dX10_meanLength_19 : decode cX10_meanLength 19 = .ok (.getfield 10, 3) := by decide +kernel
theorem dX10_meanLength_22 : decode cX10_meanLength 22 = .ok (.getfield 194, 3) := by decide +kernel
theorem dX10_meanLength_25 : decode cX10_meanLength 25 = .ok (.iload_n 3, 1) := by decide +kernel
theorem dX10_meanLength_26 : decode cX10_meanLength 26 = .ok (.aaload, 1) := by decide +kernel
theorem dX10_meanLength_27 : decode cX10_meanLength 27 = .ok (.getfield 277, 3) := by decide +kernel
theorem dX10_meanLength_30 : decode cX10_meanLength 30 = .ok (.iadd, 1) := by decide +kernel
theorem dX10_meanLength_31 : decode cX10_meanLength 31 = .ok (.istore_n 1, 1) := by decide +kernel
theorem dX10_meanLength_32 : decode cX10_meanLength 32 = .ok (.iload_n 2, 1) := by decide +kernel
theorem dX10_meanLength_33 : decode cX10_meanLength 33 = .ok (.aload_n 0, 1) := by decide +kernel
theorem dX10_meanLength_34 : decode cX10_meanLength 34 = .ok (.getfield 10, 3) := by decide +kernel
theorem dX10_meanLength_37 : decode cX10_meanLength 37 = .ok (.getfield 194, 3) := by decide +kernel
theorem dX10_meanLength_40 : decode cX10_meanLength 40 = .ok (.iload_n 3, 1) := by decide +kernel
theorem dX10_meanLength_41 : decode cX10_meanLength 41 = .ok (.aaload, 1) := by decide +kernel
theorem dX10_meanLength_42 : decode cX10_meanLength 42 = .ok (.getfield 266, 3) := by decide +kernel
theorem dX10_meanLength_45 : decode cX10_meanLength 45 = .ok (.iadd, 1) := by decide +kernel
theorem dX10_meanLength_46 : decode cX10_meanLength 46 = .ok (.istore_n 2, 1) := by decide +kernel
theorem dX10_meanLength_47 : decode cX10_meanLength 47 = .ok (.iinc 3 1, 3) := by decide +kernel
theorem dX10_meanLength_50 : decode cX10_meanLength 50 = .ok (.goto (-44), 3) := by decide +kernel
theorem dX10_meanLength_53 : decode cX10_meanLength 53 = .ok (.iload_n 2, 1) := by decide +kernel
theorem dX10_meanLength_54 : decode cX10_meanLength 54 = .ok (.ifCond .ne 7, 3) := by decide +kernel
theorem dX10_meanLength_57 : decode cX10_meanLength 57 = .ok (.dconst 0, 1) := by decide +kernel
theorem dX10_meanLength_58 : decode cX10_meanLength 58 = .ok (.goto 8, 3) := by decide +kernel
theorem dX10_meanLength_61 : decode cX10_meanLength 61 = .ok (.iload_n 1, 1) := by decide +kernel
theorem dX10_meanLength_62 : decode cX10_meanLength 62 = .ok (.i2d, 1) := by decide +kernel
theorem dX10_meanLength_63 : decode cX10_meanLength 63 = .ok (.iload_n 2, 1) := by decide +kernel
theorem dX10_meanLength_64 : decode cX10_meanLength 64 = .ok (.i2d, 1) := by decide +kernel
theorem dX10_meanLength_65 : decode cX10_meanLength 65 = .ok (.ddiv, 1) := by decide +kernel
theorem dX10_meanLength_66 : decode cX10_meanLength 66 = .ok (.dreturn, 1) := by decide +kernel
theorem dX10_soldShare_0 : decode cX10_soldShare 0 = .ok (.iconst 0, 1) := by decide +kernel
theorem dX10_soldShare_1 : decode cX10_soldShare 1 = .ok (.istore_n 1, 1) := by decide +kernel
theorem dX10_soldShare_2 : decode cX10_soldShare 2 = .ok (.iconst 0, 1) := by decide +kernel
theorem dX10_soldShare_3 : decode cX10_soldShare 3 = .ok (.istore_n 2, 1) := by decide +kernel
theorem dX10_soldShare_4 : decode cX10_soldShare 4 = .ok (.iload_n 2, 1) := by decide +kernel
theorem dX10_soldShare_5 : decode cX10_soldShare 5 = .ok (.aload_n 0, 1) := by decide +kernel
theorem dX10_soldShare_6 : decode cX10_soldShare 6 = .ok (.getfield 10, 3) := by decide +kernel
theorem dX10_soldShare_9 : decode cX10_soldShare 9 = .ok (.getfield 104, 3) := by decide +kernel
theorem dX10_soldShare_12 : decode cX10_soldShare 12 = .ok (.if_icmp .ge 28, 3) := by decide +kernel
theorem dX10_soldShare_15 : decode cX10_soldShare 15 = .ok (.aload_n 0, 1) := by decide +kernel
theorem dX10_soldShare_16 : decode cX10_soldShare 16 = .ok (.getfield 10, 3) := by decide +kernel
theorem dX10_soldShare_19 : decode cX10_soldShare 19 = .ok (.getfield 194, 3) := by decide +kernel
theorem dX10_soldShare_22 : decode cX10_soldShare 22 = .ok (.iload_n 2, 1) := by decide +kernel
theorem dX10_soldShare_23 : decode cX10_soldShare 23 = .ok (.aaload, 1) := by decide +kernel
theorem dX10_soldShare_24 : decode cX10_soldShare 24 = .ok (.getfield 286, 3) := by decide +kernel
theorem dX10_soldShare_27 : decode cX10_soldShare 27 = .ok (.iconst 2, 1) := by decide +kernel
theorem dX10_soldShare_28 : decode cX10_soldShare 28 = .ok (.if_icmp .ne 6, 3) := by decide +kernel
theorem dX10_soldShare_31 : decode cX10_soldShare 31 = .ok (.iinc 1 1, 3) := by decide +kernel
theorem dX10_soldShare_34 : decode cX10_soldShare 34 = .ok (.iinc 2 1, 3) := by decide +kernel
theorem dX10_soldShare_37 : decode cX10_soldShare 37 = .ok (.goto (-33), 3) := by decide +kernel
theorem dX10_soldShare_40 : decode cX10_soldShare 40 = .ok (.aload_n 0, 1) := by decide +kernel
theorem dX10_soldShare_41 : decode cX10_soldShare 41 = .ok (.getfield 10, 3) := by decide +kernel
theorem dX10_soldShare_44 : decode cX10_soldShare 44 = .ok (.getfield 104, 3) := by decide +kernel
theorem dX10_soldShare_47 : decode cX10_soldShare 47 = .ok (.ifCond .ne 7, 3) := by decide +kernel
theorem dX10_soldShare_50 : decode cX10_soldShare 50 = .ok (.fconst 0, 1) := by decide +kernel
theorem dX10_soldShare_51 : decode cX10_soldShare 51 = .ok (.goto 14, 3) := by decide +kernel
theorem dX10_soldShare_54 : decode cX10_soldShare 54 = .ok (.iload_n 1, 1) := by decide +kernel
theorem dX10_soldShare_55 : decode cX10_soldShare 55 = .ok (.i2f, 1) := by decide +kernel
theorem dX10_soldShare_56 : decode cX10_soldShare 56 = .ok (.aload_n 0, 1) := by decide +kernel
theorem dX10_soldShare_57 : decode cX10_soldShare 57 = .ok (.getfield 10, 3) := by decide +kernel
theorem dX10_soldShare_60 : decode cX10_soldShare 60 = .ok (.getfield 104, 3) := by decide +kernel
theorem dX10_soldShare_63 : decode cX10_soldShare 63 = .ok (.i2f, 1) := by decide +kernel
theorem dX10_soldShare_64 : decode cX10_soldShare 64 = .ok (.fdiv, 1) := by decide +kernel
theorem dX10_soldShare_65 : decode cX10_soldShare 65 = .ok (.freturn, 1) := by decide +kernel
theorem dX10_writeBarrel_0 : decode cX10_writeBarrel 0 = .ok (.aload_n 0, 1) := by decide +kernel
theorem dX10_writeBarrel_1 : decode cX10_writeBarrel 1 = .ok (.iload_n 1, 1) := by decide +kernel
theorem dX10_writeBarrel_2 : decode cX10_writeBarrel 2 = .ok (.invokevirtual 262, 3) := by decide +kernel
theorem dX10_writeBarrel_5 : decode cX10_writeBarrel 5 = .ok (.astore_n 2, 1) := by decide +kernel
theorem dX10_writeBarrel_6 : decode cX10_writeBarrel 6 = .ok (.aload_n 0, 1) := by decide +kernel
theorem dX10_writeBarrel_7 : decode cX10_writeBarrel 7 = .ok (.aload_n 2, 1) := by decide +kernel
theorem dX10_writeBarrel_8 : decode cX10_writeBarrel 8 = .ok (.getfield 274, 3) := by decide +kernel
theorem dX10_writeBarrel_11 : decode cX10_writeBarrel 11 = .ok (.aload_n 2, 1) := by decide +kernel
theorem dX10_writeBarrel_12 : decode cX10_writeBarrel 12 = .ok (.getfield 266, 3) := by decide +kernel
theorem dX10_writeBarrel_15 : decode cX10_writeBarrel 15 = .ok (.invokevirtual 331, 3) := by decide +kernel
theorem dX10_writeBarrel_18 : decode cX10_writeBarrel 18 = .ok (.aload_n 2, 1) := by decide +kernel
theorem dX10_writeBarrel_19 : decode cX10_writeBarrel 19 = .ok (.getfield 286, 3) := by decide +kernel
theorem dX10_writeBarrel_22 : decode cX10_writeBarrel 22 = .ok (.iconst 2, 1) := by decide +kernel
theorem dX10_writeBarrel_23 : decode cX10_writeBarrel 23 = .ok (.if_icmp .ne 23, 3) := by decide +kernel
theorem dX10_writeBarrel_26 : decode cX10_writeBarrel 26 = .ok (.aload_n 0, 1) := by decide +kernel
theorem dX10_writeBarrel_27 : decode cX10_writeBarrel 27 = .ok (.getfield 48, 3) := by decide +kernel
theorem dX10_writeBarrel_30 : decode cX10_writeBarrel 30 = .ok (.bipush 61, 2) := by decide +kernel
theorem dX10_writeBarrel_32 : decode cX10_writeBarrel 32 = .ok (.invokevirtual 334, 3) := by decide +kernel
theorem dX10_writeBarrel_35 : decode cX10_writeBarrel 35 = .ok (.aload_n 2, 1) := by decide +kernel
theorem dX10_writeBarrel_36 : decode cX10_writeBarrel 36 = .ok (.getfield 295, 3) := by decide +kernel
theorem dX10_writeBarrel_39 : decode cX10_writeBarrel 39 = .ok (.invokevirtual 338, 3) := by decide +kernel
theorem dX10_writeBarrel_42 : decode cX10_writeBarrel 42 = .ok (.pop, 1) := by decide +kernel
theorem dX10_writeBarrel_43 : decode cX10_writeBarrel 43 = .ok (.goto 42, 3) := by decide +kernel
theorem dX10_writeBarrel_46 : decode cX10_writeBarrel 46 = .ok (.aload_n 2, 1) := by decide +kernel
theorem dX10_writeBarrel_47 : decode cX10_writeBarrel 47 = .ok (.getfield 286, 3) := by decide +kernel
theorem dX10_writeBarrel_50 : decode cX10_writeBarrel 50 = .ok (.iconst 1, 1) := by decide +kernel
theorem dX10_writeBarrel_51 : decode cX10_writeBarrel 51 = .ok (.if_icmp .ne 16, 3) := by decide +kernel
theorem dX10_writeBarrel_54 : decode cX10_writeBarrel 54 = .ok (.aload_n 0, 1) := by decide +kernel
theorem dX10_writeBarrel_55 : decode cX10_writeBarrel 55 = .ok (.getfield 48, 3) := by decide +kernel
theorem dX10_writeBarrel_58 : decode cX10_writeBarrel 58 = .ok (.bipush 63, 2) := by decide +kernel
theorem dX10_writeBarrel_60 : decode cX10_writeBarrel 60 = .ok (.invokevirtual 334, 3) := by decide +kernel
theorem dX10_writeBarrel_63 : decode cX10_writeBarrel 63 = .ok (.pop, 1) := by decide +kernel
theorem dX10_writeBarrel_64 : decode cX10_writeBarrel 64 = .ok (.goto 21, 3) := by decide +kernel
theorem dX10_writeBarrel_67 : decode cX10_writeBarrel 67 = .ok (.aload_n 2, 1) := by decide +kernel
theorem dX10_writeBarrel_68 : decode cX10_writeBarrel 68 = .ok (.getfield 286, 3) := by decide +kernel
theorem dX10_writeBarrel_71 : decode cX10_writeBarrel 71 = .ok (.iconst 3, 1) := by decide +kernel
theorem dX10_writeBarrel_72 : decode cX10_writeBarrel 72 = .ok (.if_icmp .ne 13, 3) := by decide +kernel
theorem dX10_writeBarrel_75 : decode cX10_writeBarrel 75 = .ok (.aload_n 0, 1) := by decide +kernel
theorem dX10_writeBarrel_76 : decode cX10_writeBarrel 76 = .ok (.getfield 48, 3) := by decide +kernel
theorem dX10_writeBarrel_79 : decode cX10_writeBarrel 79 = .ok (.bipush 120, 2) := by decide +kernel
theorem dX10_writeBarrel_81 : decode cX10_writeBarrel 81 = .ok (.invokevirtual 334, 3) := by decide +kernel
theorem dX10_writeBarrel_84 : decode cX10_writeBarrel 84 = .ok (.pop, 1) := by decide +kernel
theorem dX10_writeBarrel_85 : decode cX10_writeBarrel 85 = .ok (.aload_n 0, 1) := by decide +kernel
theorem dX10_writeBarrel_86 : decode cX10_writeBarrel 86 = .ok (.getfield 48, 3) := by decide +kernel
theorem dX10_writeBarrel_89 : decode cX10_writeBarrel 89 = .ok (.invokevirtual 341, 3) := by decide +kernel
theorem dX10_writeBarrel_92 : decode cX10_writeBarrel 92 = .ok (.ireturn, 1) := by decide +kernel
theorem dX10_writeQueue_0 : decode cX10_writeQueue 0 = .ok (.aload_n 0, 1) := by decide +kernel
theorem dX10_writeQueue_1 : decode cX10_writeQueue 1 = .ok (.aload_n 0, 1) := by decide +kernel
theorem dX10_writeQueue_2 : decode cX10_writeQueue 2 = .ok (.getfield 10, 3) := by decide +kernel
theorem dX10_writeQueue_5 : decode cX10_writeQueue 5 = .ok (.getfield 259, 3) := by decide +kernel
theorem dX10_writeQueue_8 : decode cX10_writeQueue 8 = .ok (.aload_n 0, 1) := by decide +kernel
theorem dX10_writeQueue_9 : decode cX10_writeQueue 9 = .ok (.getfield 10, 3) := by decide +kernel
theorem dX10_writeQueue_12 : decode cX10_writeQueue 12 = .ok (.getfield 178, 3) := by decide +kernel
theorem dX10_writeQueue_15 : decode cX10_writeQueue 15 = .ok (.invokevirtual 331, 3) := by decide +kernel
theorem dX10_writeQueue_18 : decode cX10_writeQueue 18 = .ok (.aload_n 0, 1) := by decide +kernel
theorem dX10_writeQueue_19 : decode cX10_writeQueue 19 = .ok (.getfield 48, 3) := by decide +kernel
theorem dX10_writeQueue_22 : decode cX10_writeQueue 22 = .ok (.invokevirtual 341, 3) := by decide +kernel
theorem dX10_writeQueue_25 : decode cX10_writeQueue 25 = .ok (.ireturn, 1) := by decide +kernel
theorem dX10_outputByte_0 : decode cX10_outputByte 0 = .ok (.iload_n 1, 1) := by decide +kernel
theorem dX10_outputByte_1 : decode cX10_outputByte 1 = .ok (.ifCond .lt 14, 3) := by decide +kernel
theorem dX10_outputByte_4 : decode cX10_outputByte 4 = .ok (.iload_n 1, 1) := by decide +kernel
theorem dX10_outputByte_5 : decode cX10_outputByte 5 = .ok (.aload_n 0, 1) := by decide +kernel
theorem dX10_outputByte_6 : decode cX10_outputByte 6 = .ok (.getfield 48, 3) := by decide +kernel
theorem dX10_outputByte_9 : decode cX10_outputByte 9 = .ok (.invokevirtual 341, 3) := by decide +kernel
theorem dX10_outputByte_12 : decode cX10_outputByte 12 = .ok (.if_icmp .lt 5, 3) := by decide +kernel
theorem dX10_outputByte_15 : decode cX10_outputByte 15 = .ok (.iconst (-1), 1) := by decide +kernel
theorem dX10_outputByte_16 : decode cX10_outputByte 16 = .ok (.ireturn, 1) := by decide +kernel
theorem dX10_outputByte_17 : decode cX10_outputByte 17 = .ok (.aload_n 0, 1) := by decide +kernel
theorem dX10_outputByte_18 : decode cX10_outputByte 18 = .ok (.getfield 48, 3) := by decide +kernel
theorem dX10_outputByte_21 : decode cX10_outputByte 21 = .ok (.iload_n 1, 1) := by decide +kernel
theorem dX10_outputByte_22 : decode cX10_outputByte 22 = .ok (.invokevirtual 344, 3) := by decide +kernel
theorem dX10_outputByte_25 : decode cX10_outputByte 25 = .ok (.ireturn, 1) := by decide +kernel
theorem dX10_writeList_0 : decode cX10_writeList 0 = .ok (.aload_n 0, 1) := by decide +kernel
theorem dX10_writeList_1 : decode cX10_writeList 1 = .ok (.getfield 48, 3) := by decide +kernel
theorem dX10_writeList_4 : decode cX10_writeList 4 = .ok (.iconst 0, 1) := by decide +kernel
theorem dX10_writeList_5 : decode cX10_writeList 5 = .ok (.invokevirtual 348, 3) := by decide +kernel
theorem dX10_writeList_8 : decode cX10_writeList 8 = .ok (.iconst 0, 1) := by decide +kernel
theorem dX10_writeList_9 : decode cX10_writeList 9 = .ok (.istore_n 3, 1) := by decide +kernel
theorem dX10_writeList_10 : decode cX10_writeList 10 = .ok (.iload_n 3, 1) := by decide +kernel
theorem dX10_writeList_11 : decode cX10_writeList 11 = .ok (.iload_n 2, 1) := by decide +kernel
theorem dX10_writeList_12 : decode cX10_writeList 12 = .ok (.if_icmp .ge 40, 3) := by decide +kernel
theorem dX10_writeList_15 : decode cX10_writeList 15 = .ok (.iload_n 3, 1) := by decide +kernel
theorem dX10_writeList_16 : decode cX10_writeList 16 = .ok (.aload_n 1, 1) := by decide +kernel
theorem dX10_writeList_17 : decode cX10_writeList 17 = .ok (.arraylength, 1) := by decide +kernel
theorem dX10_writeList_18 : decode cX10_writeList 18 = .ok (.if_icmp .ge 34, 3) := by decide +kernel
theorem dX10_writeList_21 : decode cX10_writeList 21 = .ok (.iload_n 3, 1) := by decide +kernel
theorem dX10_writeList_22 : decode cX10_writeList 22 = .ok (.ifCond .le 13, 3) := by decide +kernel
theorem dX10_writeList_25 : decode cX10_writeList 25 = .ok (.aload_n 0, 1) := by decide +kernel
theorem dX10_writeList_26 : decode cX10_writeList 26 = .ok (.getfield 48, 3) := by decide +kernel
theorem dX10_writeList_29 : decode cX10_writeList 29 = .ok (.bipush 44, 2) := by decide +kernel
theorem dX10_writeList_31 : decode cX10_writeList 31 = .ok (.invokevirtual 334, 3) := by decide +kernel
theorem dX10_writeList_34 : decode cX10_writeList 34 = .ok (.pop, 1) := by decide +kernel
theorem dX10_writeList_35 : decode cX10_writeList 35 = .ok (.aload_n 0, 1) := by decide +kernel
theorem dX10_writeList_36 : decode cX10_writeList 36 = .ok (.getfield 48, 3) := by decide +kernel
theorem dX10_writeList_39 : decode cX10_writeList 39 = .ok (.aload_n 1, 1) := by decide +kernel
theorem dX10_writeList_40 : decode cX10_writeList 40 = .ok (.iload_n 3, 1) := by decide +kernel
theorem dX10_writeList_41 : decode cX10_writeList 41 = .ok (.iaload, 1) := by decide +kernel
theorem dX10_writeList_42 : decode cX10_writeList 42 = .ok (.invokevirtual 338, 3) := by decide +kernel
theorem dX10_writeList_45 : decode cX10_writeList 45 = .ok (.pop, 1) := by decide +kernel
theorem dX10_writeList_46 : decode cX10_writeList 46 = .ok (.iinc 3 1, 3) := by decide +kernel
theorem dX10_writeList_49 : decode cX10_writeList 49 = .ok (.goto (-39), 3) := by decide +kernel
theorem dX10_writeList_52 : decode cX10_writeList 52 = .ok (.return_, 1) := by decide +kernel
theorem dX10_foresee_0 : decode cX10_foresee 0 = .ok (.aload_n 0, 1) := by decide +kernel
theorem dX10_foresee_1 : decode cX10_foresee 1 = .ok (.getfield 16, 3) := by decide +kernel
theorem dX10_foresee_4 : decode cX10_foresee 4 = .ok (.aload_n 0, 1) := by decide +kernel
theorem dX10_foresee_5 : decode cX10_foresee 5 = .ok (.getfield 10, 3) := by decide +kernel
theorem dX10_foresee_8 : decode cX10_foresee 8 = .ok (.invokevirtual 101, 3) := by decide +kernel
theorem dX10_foresee_11 : decode cX10_foresee 11 = .ok (.aload_n 0, 1) := by decide +kernel
theorem dX10_foresee_12 : decode cX10_foresee 12 = .ok (.getfield 16, 3) := by decide +kernel
theorem dX10_foresee_15 : decode cX10_foresee 15 = .ok (.iload_n 1, 1) := by decide +kernel
theorem dX10_foresee_16 : decode cX10_foresee 16 = .ok (.putfield 203, 3) := by decide +kernel
theorem dX10_foresee_19 : decode cX10_foresee 19 = .ok (.aload_n 0, 1) := by decide +kernel
theorem dX10_foresee_20 : decode cX10_foresee 20 = .ok (.getfield 16, 3) := by decide +kernel
theorem dX10_foresee_23 : decode cX10_foresee 23 = .ok (.iload_n 2, 1) := by decide +kernel
theorem dX10_foresee_24 : decode cX10_foresee 24 = .ok (.invokevirtual 144, 3) := by decide +kernel
theorem dX10_foresee_27 : decode cX10_foresee 27 = .ok (.pop, 1) := by decide +kernel
theorem dX10_foresee_28 : decode cX10_foresee 28 = .ok (.return_, 1) := by decide +kernel
theorem dX10_barrelAt_0 : decode cX10_barrelAt 0 = .ok (.aload_n 0, 1) := by decide +kernel
theorem dX10_barrelAt_1 : decode cX10_barrelAt 1 = .ok (.iload_n 1, 1) := by decide +kernel
theorem dX10_barrelAt_2 : decode cX10_barrelAt 2 = .ok (.invokevirtual 161, 3) := by decide +kernel
theorem dX10_barrelAt_5 : decode cX10_barrelAt 5 = .ok (.aload_n 0, 1) := by decide +kernel
theorem dX10_barrelAt_6 : decode cX10_barrelAt 6 = .ok (.getfield 10, 3) := by decide +kernel
theorem dX10_barrelAt_9 : decode cX10_barrelAt 9 = .ok (.getfield 194, 3) := by decide +kernel
theorem dX10_barrelAt_12 : decode cX10_barrelAt 12 = .ok (.iload_n 1, 1) := by decide +kernel
theorem dX10_barrelAt_13 : decode cX10_barrelAt 13 = .ok (.aaload, 1) := by decide +kernel
theorem dX10_barrelAt_14 : decode cX10_barrelAt 14 = .ok (.areturn, 1) := by decide +kernel
theorem dX10_buyerAt_0 : decode cX10_buyerAt 0 = .ok (.aload_n 0, 1) := by decide +kernel
theorem dX10_buyerAt_1 : decode cX10_buyerAt 1 = .ok (.iload_n 1, 1) := by decide +kernel
theorem dX10_buyerAt_2 : decode cX10_buyerAt 2 = .ok (.invokevirtual 127, 3) := by decide +kernel
theorem dX10_buyerAt_5 : decode cX10_buyerAt 5 = .ok (.aload_n 0, 1) := by decide +kernel
theorem dX10_buyerAt_6 : decode cX10_buyerAt 6 = .ok (.getfield 10, 3) := by decide +kernel
theorem dX10_buyerAt_9 : decode cX10_buyerAt 9 = .ok (.getfield 185, 3) := by decide +kernel
theorem dX10_buyerAt_12 : decode cX10_buyerAt 12 = .ok (.iload_n 1, 1) := by decide +kernel
theorem dX10_buyerAt_13 : decode cX10_buyerAt 13 = .ok (.aaload, 1) := by decide +kernel
theorem dX10_buyerAt_14 : decode cX10_buyerAt 14 = .ok (.areturn, 1) := by decide +kernel
theorem dX10_requireBarrel_0 : decode cX10_requireBarrel 0 = .ok (.aload_n 0, 1) := by decide +kernel
theorem dX10_requireBarrel_1 : decode cX10_requireBarrel 1 = .ok (.getfield 10, 3) := by decide +kernel
theorem dX10_requireBarrel_4 : decode cX10_requireBarrel 4 = .ok (.iload_n 1, 1) := by decide +kernel
theorem dX10_requireBarrel_5 : decode cX10_requireBarrel 5 = .ok (.invokevirtual 351, 3) := by decide +kernel
theorem dX10_requireBarrel_8 : decode cX10_requireBarrel 8 = .ok (.ifCond .ne 14, 3) := by decide +kernel
theorem dX10_requireBarrel_11 : decode cX10_requireBarrel 11 = .ok (.new 269, 3) := by decide +kernel
theorem dX10_requireBarrel_14 : decode cX10_requireBarrel 14 = .ok (.dup, 1) := by decide +kernel
theorem dX10_requireBarrel_15 : decode cX10_requireBarrel 15 = .ok (.ldc_w 354, 3) := by decide +kernel
theorem dX10_requireBarrel_18 : decode cX10_requireBarrel 18 = .ok (.invokespecial 273, 3) := by decide +kernel
theorem dX10_requireBarrel_21 : decode cX10_requireBarrel 21 = .ok (.athrow, 1) := by decide +kernel
theorem dX10_requireBarrel_22 : decode cX10_requireBarrel 22 = .ok (.return_, 1) := by decide +kernel
theorem dX10_requireBuyer_0 : decode cX10_requireBuyer 0 = .ok (.aload_n 0, 1) := by decide +kernel
theorem dX10_requireBuyer_1 : decode cX10_requireBuyer 1 = .ok (.getfield 10, 3) := by decide +kernel
theorem dX10_requireBuyer_4 : decode cX10_requireBuyer 4 = .ok (.iload_n 1, 1) := by decide +kernel
theorem dX10_requireBuyer_5 : decode cX10_requireBuyer 5 = .ok (.invokevirtual 356, 3) := by decide +kernel
theorem dX10_requireBuyer_8 : decode cX10_requireBuyer 8 = .ok (.ifCond .ne 14, 3) := by decide +kernel
theorem dX10_requireBuyer_11 : decode cX10_requireBuyer 11 = .ok (.new 269, 3) := by decide +kernel
theorem dX10_requireBuyer_14 : decode cX10_requireBuyer 14 = .ok (.dup, 1) := by decide +kernel
theorem dX10_requireBuyer_15 : decode cX10_requireBuyer 15 = .ok (.ldc_w 359, 3) := by decide +kernel
theorem dX10_requireBuyer_18 : decode cX10_requireBuyer 18 = .ok (.invokespecial 273, 3) := by decide +kernel
theorem dX10_requireBuyer_21 : decode cX10_requireBuyer 21 = .ok (.athrow, 1) := by decide +kernel
theorem dX10_requireBuyer_22 : decode cX10_requireBuyer 22 = .ok (.return_, 1) := by decide +kernel
theorem dX10_requireRange_0 : decode cX10_requireRange 0 = .ok (.iload_n 0, 1) := by decide +kernel
theorem dX10_requireRange_1 : decode cX10_requireRange 1 = .ok (.iload_n 1, 1) := by decide +kernel
theorem dX10_requireRange_2 : decode cX10_requireRange 2 = .ok (.if_icmp .lt 8, 3) := by decide +kernel
theorem dX10_requireRange_5 : decode cX10_requireRange 5 = .ok (.iload_n 0, 1) := by decide +kernel
theorem dX10_requireRange_6 : decode cX10_requireRange 6 = .ok (.iload_n 2, 1) := by decide +kernel
theorem dX10_requireRange_7 : decode cX10_requireRange 7 = .ok (.if_icmp .le 14, 3) := by decide +kernel
theorem dX10_requireRange_10 : decode cX10_requireRange 10 = .ok (.new 92, 3) := by decide +kernel
theorem dX10_requireRange_13 : decode cX10_requireRange 13 = .ok (.dup, 1) := by decide +kernel
theorem dX10_requireRange_14 : decode cX10_requireRange 14 = .ok (.ldc_w 361, 3) := by decide +kernel
theorem dX10_requireRange_17 : decode cX10_requireRange 17 = .ok (.invokespecial 96, 3) := by decide +kernel
theorem dX10_requireRange_20 : decode cX10_requireRange 20 = .ok (.athrow, 1) := by decide +kernel
theorem dX10_requireRange_21 : decode cX10_requireRange 21 = .ok (.return_, 1) := by decide +kernel
theorem dX10_requireState_0 : decode cX10_requireState 0 = .ok (.iload_n 0, 1) := by decide +kernel
theorem dX10_requireState_1 : decode cX10_requireState 1 = .ok (.ifCond .ne 14, 3) := by decide +kernel
theorem dX10_requireState_4 : decode cX10_requireState 4 = .ok (.new 72, 3) := by decide +kernel
theorem dX10_requireState_7 : decode cX10_requireState 7 = .ok (.dup, 1) := by decide +kernel
theorem dX10_requireState_8 : decode cX10_requireState 8 = .ok (.ldc_w 363, 3) := by decide +kernel
theorem dX10_requireState_11 : decode cX10_requireState 11 = .ok (.invokespecial 76, 3) := by decide +kernel
theorem dX10_requireState_14 : decode cX10_requireState 14 = .ok (.athrow, 1) := by decide +kernel
theorem dX10_requireState_15 : decode cX10_requireState 15 = .ok (.return_, 1) := by decide +kernel
