theorem dL_append_0 : decode cL_append 0 = .ok (.aload 6, 2) := by decide +kernel
theorem dL_append_2 : decode cL_append 2 = .ok (.iconst 0, 1) := by decide +kernel
theorem dL_append_3 : decode cL_append 3 = .ok (.aload_n 0, 1) := by decide +kernel
theorem dL_append_4 : decode cL_append 4 = .ok (.iload_n 1, 1) := by decide +kernel
theorem dL_append_5 : decode cL_append 5 = .ok (.iload_n 2, 1) := by decide +kernel
theorem dL_append_6 : decode cL_append 6 = .ok (.iload_n 3, 1) := by decide +kernel
theorem dL_append_7 : decode cL_append 7 = .ok (.iload 4, 2) := by decide +kernel
theorem dL_append_9 : decode cL_append 9 = .ok (.iload 5, 2) := by decide +kernel
theorem dL_append_11 : decode cL_append 11 = .ok (.invokevirtual 7, 3) := by decide +kernel
theorem dL_append_14 : decode cL_append 14 = .ok (.i2l, 1) := by decide +kernel
theorem dL_append_15 : decode cL_append 15 = .ok (.lastore, 1) := by decide +kernel
theorem dL_append_16 : decode cL_append 16 = .ok (.goto 7, 3) := by decide +kernel
theorem dL_append_19 : decode cL_append 19 = .ok (.astore 7, 2) := by decide +kernel
theorem dL_append_21 : decode cL_append 21 = .ok (.iconst 1, 1) := by decide +kernel
theorem dL_append_22 : decode cL_append 22 = .ok (.ireturn, 1) := by decide +kernel
theorem dL_append_23 : decode cL_append 23 = .ok (.iconst 0, 1) := by decide +kernel
theorem dL_append_24 : decode cL_append 24 = .ok (.ireturn, 1) := by decide +kernel
theorem dL_truncate_0 : decode cL_truncate 0 = .ok (.aload_n 2, 1) := by decide +kernel
theorem dL_truncate_1 : decode cL_truncate 1 = .ok (.iconst 0, 1) := by decide +kernel
theorem dL_truncate_2 : decode cL_truncate 2 = .ok (.aload_n 0, 1) := by decide +kernel
theorem dL_truncate_3 : decode cL_truncate 3 = .ok (.iload_n 1, 1) := by decide +kernel
theorem dL_truncate_4 : decode cL_truncate 4 = .ok (.invokevirtual 15, 3) := by decide +kernel
theorem dL_truncate_7 : decode cL_truncate 7 = .ok (.i2l, 1) := by decide +kernel
theorem dL_truncate_8 : decode cL_truncate 8 = .ok (.lastore, 1) := by decide +kernel
theorem dL_truncate_9 : decode cL_truncate 9 = .ok (.goto 6, 3) := by decide +kernel
theorem dL_truncate_12 : decode cL_truncate 12 = .ok (.astore_n 3, 1) := by decide +kernel
theorem dL_truncate_13 : decode cL_truncate 13 = .ok (.iconst 1, 1) := by decide +kernel
theorem dL_truncate_14 : decode cL_truncate 14 = .ok (.ireturn, 1) := by decide +kernel
theorem dL_truncate_15 : decode cL_truncate 15 = .ok (.iconst 0, 1) := by decide +kernel
theorem dL_truncate_16 : decode cL_truncate 16 = .ok (.ireturn, 1) := by decide +kernel
theorem dL_loadSetup_0 : decode cL_loadSetup 0 = .ok (.aload_n 1, 1) := by decide +kernel
theorem dL_loadSetup_1 : decode cL_loadSetup 1 = .ok (.iconst 0, 1) := by decide +kernel
theorem dL_loadSetup_2 : decode cL_loadSetup 2 = .ok (.aload_n 0, 1) := by decide +kernel
theorem dL_loadSetup_3 : decode cL_loadSetup 3 = .ok (.invokevirtual 21, 3) := by decide +kernel
theorem dL_loadSetup_6 : decode cL_loadSetup 6 = .ok (.i2l, 1) := by decide +kernel
theorem dL_loadSetup_7 : decode cL_loadSetup 7 = .ok (.lastore, 1) := by decide +kernel
theorem dL_loadSetup_8 : decode cL_loadSetup 8 = .ok (.goto 6, 3) := by decide +kernel
theorem dL_loadSetup_11 : decode cL_loadSetup 11 = .ok (.astore_n 2, 1) := by decide +kernel
theorem dL_loadSetup_12 : decode cL_loadSetup 12 = .ok (.iconst 1, 1) := by decide +kernel
theorem dL_loadSetup_13 : decode cL_loadSetup 13 = .ok (.ireturn, 1) := by decide +kernel
theorem dL_loadSetup_14 : decode cL_loadSetup 14 = .ok (.iconst 0, 1) := by decide +kernel
theorem dL_loadSetup_15 : decode cL_loadSetup 15 = .ok (.ireturn, 1) := by decide +kernel
theorem dL_runScript_0 : decode cL_runScript 0 = .ok (.aload_n 1, 1) := by decide +kernel
theorem dL_runScript_1 : decode cL_runScript 1 = .ok (.iconst 0, 1) := by decide +kernel
theorem dL_runScript_2 : decode cL_runScript 2 = .ok (.aload_n 0, 1) := by decide +kernel
theorem dL_runScript_3 : decode cL_runScript 3 = .ok (.invokevirtual 25, 3) := by decide +kernel
theorem dL_runScript_6 : decode cL_runScript 6 = .ok (.i2l, 1) := by decide +kernel
theorem dL_runScript_7 : decode cL_runScript 7 = .ok (.lastore, 1) := by decide +kernel
theorem dL_runScript_8 : decode cL_runScript 8 = .ok (.goto 6, 3) := by decide +kernel
theorem dL_runScript_11 : decode cL_runScript 11 = .ok (.astore_n 2, 1) := by decide +kernel
theorem dL_runScript_12 : decode cL_runScript 12 = .ok (.iconst 1, 1) := by decide +kernel
theorem dL_runScript_13 : decode cL_runScript 13 = .ok (.ireturn, 1) := by decide +kernel
theorem dL_runScript_14 : decode cL_runScript 14 = .ok (.iconst 0, 1) := by decide +kernel
theorem dL_runScript_15 : decode cL_runScript 15 = .ok (.ireturn, 1) := by decide +kernel
theorem dL_nod_0 : decode cL_nod 0 = .ok (.aload_n 2, 1) := by decide +kernel
theorem dL_nod_1 : decode cL_nod 1 = .ok (.iconst 0, 1) := by decide +kernel
theorem dL_nod_2 : decode cL_nod 2 = .ok (.aload_n 0, 1) := by decide +kernel
theorem dL_nod_3 : decode cL_nod 3 = .ok (.iload_n 1, 1) := by decide +kernel
theorem dL_nod_4 : decode cL_nod 4 = .ok (.invokevirtual 28, 3) := by decide +kernel
theorem dL_nod_7 : decode cL_nod 7 = .ok (.i2l, 1) := by decide +kernel
theorem dL_nod_8 : decode cL_nod 8 = .ok (.lastore, 1) := by decide +kernel
theorem dL_nod_9 : decode cL_nod 9 = .ok (.goto 9, 3) := by decide +kernel
theorem dL_nod_12 : decode cL_nod 12 = .ok (.astore_n 3, 1) := by decide +kernel
theorem dL_nod_13 : decode cL_nod 13 = .ok (.iconst 1, 1) := by decide +kernel
theorem dL_nod_14 : decode cL_nod 14 = .ok (.ireturn, 1) := by decide +kernel
theorem dL_nod_15 : decode cL_nod 15 = .ok (.astore_n 3, 1) := by decide +kernel
theorem dL_nod_16 : decode cL_nod 16 = .ok (.iconst 2, 1) := by decide +kernel
theorem dL_nod_17 : decode cL_nod 17 = .ok (.ireturn, 1) := by decide +kernel
theorem dL_nod_18 : decode cL_nod 18 = .ok (.iconst 0, 1) := by decide +kernel
theorem dL_nod_19 : decode cL_nod 19 = .ok (.ireturn, 1) := by decide +kernel
theorem dL_passMinutes_0 : decode cL_passMinutes 0 = .ok (.aload_n 2, 1) := by decide +kernel
theorem dL_passMinutes_1 : decode cL_passMinutes 1 = .ok (.iconst 0, 1) := by decide +kernel
theorem dL_passMinutes_2 : decode cL_passMinutes 2 = .ok (.aload_n 0, 1) := by decide +kernel
theorem dL_passMinutes_3 : decode cL_passMinutes 3 = .ok (.iload_n 1, 1) := by decide +kernel
theorem dL_passMinutes_4 : decode cL_passMinutes 4 = .ok (.invokevirtual 33, 3) := by decide +kernel
theorem dL_passMinutes_7 : decode cL_passMinutes 7 = .ok (.i2l, 1) := by decide +kernel
theorem dL_passMinutes_8 : decode cL_passMinutes 8 = .ok (.lastore, 1) := by decide +kernel
theorem dL_passMinutes_9 : decode cL_passMinutes 9 = .ok (.goto 6, 3) := by decide +kernel
theorem dL_passMinutes_12 : decode cL_passMinutes 12 = .ok (.astore_n 3, 1) := by decide +kernel
theorem dL_passMinutes_13 : decode cL_passMinutes 13 = .ok (.iconst 1, 1) := by decide +kernel
theorem dL_passMinutes_14 : decode cL_passMinutes 14 = .ok (.ireturn, 1) := by decide +kernel
theorem dL_passMinutes_15 : decode cL_passMinutes 15 = .ok (.iconst 0, 1) := by decide +kernel
theorem dL_passMinutes_16 : decode cL_passMinutes 16 = .ok (.ireturn, 1) := by decide +kernel
theorem dL_addBarrel_0 : decode cL_addBarrel 0 = .ok (.aload 4, 2) := by decide +kernel
theorem dL_addBarrel_2 : decode cL_addBarrel 2 = .ok (.iconst 0, 1) := by decide +kernel
theorem dL_addBarrel_3 : decode cL_addBarrel 3 = .ok (.aload_n 0, 1) := by decide +kernel
theorem dL_addBarrel_4 : decode cL_addBarrel 4 = .ok (.iload_n 1, 1) := by decide +kernel
theorem dL_addBarrel_5 : decode cL_addBarrel 5 = .ok (.iload_n 2, 1) := by decide +kernel
theorem dL_addBarrel_6 : decode cL_addBarrel 6 = .ok (.iload_n 3, 1) := by decide +kernel
theorem dL_addBarrel_7 : decode cL_addBarrel 7 = .ok (.invokevirtual 36, 3) := by decide +kernel
theorem dL_addBarrel_10 : decode cL_addBarrel 10 = .ok (.i2l, 1) := by decide +kernel
theorem dL_addBarrel_11 : decode cL_addBarrel 11 = .ok (.lastore, 1) := by decide +kernel
theorem dL_addBarrel_12 : decode cL_addBarrel 12 = .ok (.goto 11, 3) := by decide +kernel
theorem dL_addBarrel_15 : decode cL_addBarrel 15 = .ok (.astore 5, 2) := by decide +kernel
theorem dL_addBarrel_17 : decode cL_addBarrel 17 = .ok (.iconst 1, 1) := by decide +kernel
theorem dL_addBarrel_18 : decode cL_addBarrel 18 = .ok (.ireturn, 1) := by decide +kernel
theorem dL_addBarrel_19 : decode cL_addBarrel 19 = .ok (.astore 5, 2) := by decide +kernel
theorem dL_addBarrel_21 : decode cL_addBarrel 21 = .ok (.iconst 2, 1) := by decide +kernel
theorem dL_addBarrel_22 : decode cL_addBarrel 22 = .ok (.ireturn, 1) := by decide +kernel
theorem dL_addBarrel_23 : decode cL_addBarrel 23 = .ok (.iconst 0, 1) := by decide +kernel
theorem dL_addBarrel_24 : decode cL_addBarrel 24 = .ok (.ireturn, 1) := by decide +kernel
theorem dL_split_0 : decode cL_split 0 = .ok (.aload_n 3, 1) := by decide +kernel
theorem dL_split_1 : decode cL_split 1 = .ok (.iconst 0, 1) := by decide +kernel
theorem dL_split_2 : decode cL_split 2 = .ok (.aload_n 0, 1) := by decide +kernel
theorem dL_split_3 : decode cL_split 3 = .ok (.iload_n 1, 1) := by decide +kernel
theorem dL_split_4 : decode cL_split 4 = .ok (.iload_n 2, 1) := by decide +kernel
theorem dL_split_5 : decode cL_split 5 = .ok (.invokevirtual 40, 3) := by decide +kernel
theorem dL_split_8 : decode cL_split 8 = .ok (.i2l, 1) := by decide +kernel
theorem dL_split_9 : decode cL_split 9 = .ok (.lastore, 1) := by decide +kernel
theorem dL_split_10 : decode cL_split 10 = .ok (.goto 15, 3) := by decide +kernel
theorem dL_split_13 : decode cL_split 13 = .ok (.astore 4, 2) := by decide +kernel
theorem dL_split_15 : decode cL_split 15 = .ok (.iconst 1, 1) := by decide +kernel
theorem dL_split_16 : decode cL_split 16 = .ok (.ireturn, 1) := by decide +kernel
theorem dL_split_17 : decode cL_split 17 = .ok (.astore 4, 2) := by decide +kernel
theorem dL_split_19 : decode cL_split 19 = .ok (.iconst 2, 1) := by decide +kernel
theorem dL_split_20 : decode cL_split 20 = .ok (.ireturn, 1) := by decide +kernel
theorem dL_split_21 : decode cL_split 21 = .ok (.astore 4, 2) := by decide +kernel
theorem dL_split_23 : decode cL_split 23 = .ok (.iconst 3, 1) := by decide +kernel
theorem dL_split_24 : decode cL_split 24 = .ok (.ireturn, 1) := by decide +kernel
theorem dL_split_25 : decode cL_split 25 = .ok (.iconst 0, 1) := by decide +kernel
theorem dL_split_26 : decode cL_split 26 = .ok (.ireturn, 1) := by decide +kernel
theorem dL_withdraw_0 : decode cL_withdraw 0 = .ok (.aload_n 2, 1) := by decide +kernel
theorem dL_withdraw_1 : decode cL_withdraw 1 = .ok (.iconst 0, 1) := by decide +kernel
theorem dL_withdraw_2 : decode cL_withdraw 2 = .ok (.aload_n 0, 1) := by decide +kernel
theorem dL_withdraw_3 : decode cL_withdraw 3 = .ok (.iload_n 1, 1) := by decide +kernel
theorem dL_withdraw_4 : decode cL_withdraw 4 = .ok (.invokevirtual 44, 3) := by decide +kernel
theorem dL_withdraw_7 : decode cL_withdraw 7 = .ok (.i2l, 1) := by decide +kernel
theorem dL_withdraw_8 : decode cL_withdraw 8 = .ok (.lastore, 1) := by decide +kernel
theorem dL_withdraw_9 : decode cL_withdraw 9 = .ok (.goto 9, 3) := by decide +kernel
theorem dL_withdraw_12 : decode cL_withdraw 12 = .ok (.astore_n 3, 1) := by decide +kernel
theorem dL_withdraw_13 : decode cL_withdraw 13 = .ok (.iconst 1, 1) := by decide +kernel
theorem dL_withdraw_14 : decode cL_withdraw 14 = .ok (.ireturn, 1) := by decide +kernel
theorem dL_withdraw_15 : decode cL_withdraw 15 = .ok (.astore_n 3, 1) := by decide +kernel
theorem dL_withdraw_16 : decode cL_withdraw 16 = .ok (.iconst 2, 1) := by decide +kernel
theorem dL_withdraw_17 : decode cL_withdraw 17 = .ok (.ireturn, 1) := by decide +kernel
theorem dL_withdraw_18 : decode cL_withdraw 18 = .ok (.iconst 0, 1) := by decide +kernel
theorem dL_withdraw_19 : decode cL_withdraw 19 = .ok (.ireturn, 1) := by decide +kernel
theorem dL_fund_0 : decode cL_fund 0 = .ok (.aload_n 3, 1) := by decide +kernel
theorem dL_fund_1 : decode cL_fund 1 = .ok (.iconst 0, 1) := by decide +kernel
theorem dL_fund_2 : decode cL_fund 2 = .ok (.aload_n 0, 1) := by decide +kernel
theorem dL_fund_3 : decode cL_fund 3 = .ok (.iload_n 1, 1) := by decide +kernel
theorem dL_fund_4 : decode cL_fund 4 = .ok (.iload_n 2, 1) := by decide +kernel
theorem dL_fund_5 : decode cL_fund 5 = .ok (.invokevirtual 47, 3) := by decide +kernel
theorem dL_fund_8 : decode cL_fund 8 = .ok (.i2l, 1) := by decide +kernel
theorem dL_fund_9 : decode cL_fund 9 = .ok (.lastore, 1) := by decide +kernel
theorem dL_fund_10 : decode cL_fund 10 = .ok (.goto 11, 3) := by decide +kernel
theorem dL_fund_13 : decode cL_fund 13 = .ok (.astore 4, 2) := by decide +kernel
theorem dL_fund_15 : decode cL_fund 15 = .ok (.iconst 1, 1) := by decide +kernel
theorem dL_fund_16 : decode cL_fund 16 = .ok (.ireturn, 1) := by decide +kernel
theorem dL_fund_17 : decode cL_fund 17 = .ok (.astore 4, 2) := by decide +kernel
theorem dL_fund_19 : decode cL_fund 19 = .ok (.iconst 2, 1) := by decide +kernel
theorem dL_fund_20 : decode cL_fund 20 = .ok (.ireturn, 1) := by decide +kernel
theorem dL_fund_21 : decode cL_fund 21 = .ok (.iconst 0, 1) := by decide +kernel
theorem dL_fund_22 : decode cL_fund 22 = .ok (.ireturn, 1) := by decide +kernel
theorem dL_setReserve_0 : decode cL_setReserve 0 = .ok (.aload_n 3, 1) := by decide +kernel
theorem dL_setReserve_1 : decode cL_setReserve 1 = .ok (.iconst 0, 1) := by decide +kernel
theorem dL_setReserve_2 : decode cL_setReserve 2 = .ok (.aload_n 0, 1) := by decide +kernel
theorem dL_setReserve_3 : decode cL_setReserve 3 = .ok (.iload_n 1, 1) := by decide +kernel
theorem dL_setReserve_4 : decode cL_setReserve 4 = .ok (.iload_n 2, 1) := by decide +kernel
theorem dL_setReserve_5 : decode cL_setReserve 5 = .ok (.invokevirtual 50, 3) := by decide +kernel
theorem dL_setReserve_8 : decode cL_setReserve 8 = .ok (.i2l, 1) := by decide +kernel
theorem dL_setReserve_9 : decode cL_setReserve 9 = .ok (.lastore, 1) := by decide +kernel
theorem dL_setReserve_10 : decode cL_setReserve 10 = .ok (.goto 15, 3) := by decide +kernel
theorem dL_setReserve_13 : decode cL_setReserve 13 = .ok (.astore 4, 2) := by decide +kernel
theorem dL_setReserve_15 : decode cL_setReserve 15 = .ok (.iconst 1, 1) := by decide +kernel
theorem dL_setReserve_16 : decode cL_setReserve 16 = .ok (.ireturn, 1) := by decide +kernel
theorem dL_setReserve_17 : decode cL_setReserve 17 = .ok (.astore 4, 2) := by decide +kernel
theorem dL_setReserve_19 : decode cL_setReserve 19 = .ok (.iconst 2, 1) := by decide +kernel
theorem dL_setReserve_20 : decode cL_setReserve 20 = .ok (.ireturn, 1) := by decide +kernel
theorem dL_setReserve_21 : decode cL_setReserve 21 = .ok (.astore 4, 2) := by decide +kernel
theorem dL_setReserve_23 : decode cL_setReserve 23 = .ok (.iconst 3, 1) := by decide +kernel
theorem dL_setReserve_24 : decode cL_setReserve 24 = .ok (.ireturn, 1) := by decide +kernel
theorem dL_setReserve_25 : decode cL_setReserve 25 = .ok (.iconst 0, 1) := by decide +kernel
theorem dL_setReserve_26 : decode cL_setReserve 26 = .ok (.ireturn, 1) := by decide +kernel
theorem dL_setStep_0 : decode cL_setStep 0 = .ok (.aload_n 2, 1) := by decide +kernel
theorem dL_setStep_1 : decode cL_setStep 1 = .ok (.iconst 0, 1) := by decide +kernel
theorem dL_setStep_2 : decode cL_setStep 2 = .ok (.aload_n 0, 1) := by decide +kernel
theorem dL_setStep_3 : decode cL_setStep 3 = .ok (.iload_n 1, 1) := by decide +kernel
theorem dL_setStep_4 : decode cL_setStep 4 = .ok (.invokevirtual 53, 3) := by decide +kernel
theorem dL_setStep_7 : decode cL_setStep 7 = .ok (.i2l, 1) := by decide +kernel
theorem dL_setStep_8 : decode cL_setStep 8 = .ok (.lastore, 1) := by decide +kernel
theorem dL_setStep_9 : decode cL_setStep 9 = .ok (.goto 6, 3) := by decide +kernel
theorem dL_setStep_12 : decode cL_setStep 12 = .ok (.astore_n 3, 1) := by decide +kernel
theorem dL_setStep_13 : decode cL_setStep 13 = .ok (.iconst 1, 1) := by decide +kernel
theorem dL_setStep_14 : decode cL_setStep 14 = .ok (.ireturn, 1) := by decide +kernel
theorem dL_setStep_15 : decode cL_setStep 15 = .ok (.iconst 0, 1) := by decide +kernel
theorem dL_setStep_16 : decode cL_setStep 16 = .ok (.ireturn, 1) := by decide +kernel
theorem dL_setTaste_0 : decode cL_setTaste 0 = .ok (.aload 4, 2) := by decide +kernel
theorem dL_setTaste_2 : decode cL_setTaste 2 = .ok (.iconst 0, 1) := by decide +kernel
theorem dL_setTaste_3 : decode cL_setTaste 3 = .ok (.aload_n 0, 1) := by decide +kernel
theorem dL_setTaste_4 : decode cL_setTaste 4 = .ok (.iload_n 1, 1) := by decide +kernel
theorem dL_setTaste_5 : decode cL_setTaste 5 = .ok (.iload_n 2, 1) := by decide +kernel
theorem dL_setTaste_6 : decode cL_setTaste 6 = .ok (.iload_n 3, 1) := by decide +kernel
theorem dL_setTaste_7 : decode cL_setTaste 7 = .ok (.invokevirtual 56, 3) := by decide +kernel
theorem dL_setTaste_10 : decode cL_setTaste 10 = .ok (.i2l, 1) := by decide +kernel
theorem dL_setTaste_11 : decode cL_setTaste 11 = .ok (.lastore, 1) := by decide +kernel
theorem dL_setTaste_12 : decode cL_setTaste 12 = .ok (.goto 11, 3) := by decide +kernel
theorem dL_setTaste_15 : decode cL_setTaste 15 = .ok (.astore 5, 2) := by decide +kernel
theorem dL_setTaste_17 : decode cL_setTaste 17 = .ok (.iconst 1, 1) := by decide +kernel
theorem dL_setTaste_18 : decode cL_setTaste 18 = .ok (.ireturn, 1) := by decide +kernel
theorem dL_setTaste_19 : decode cL_setTaste 19 = .ok (.astore 5, 2) := by decide +kernel
theorem dL_setTaste_21 : decode cL_setTaste 21 = .ok (.iconst 2, 1) := by decide +kernel
theorem dL_setTaste_22 : decode cL_setTaste 22 = .ok (.ireturn, 1) := by decide +kernel
theorem dL_setTaste_23 : decode cL_setTaste 23 = .ok (.iconst 0, 1) := by decide +kernel
theorem dL_setTaste_24 : decode cL_setTaste 24 = .ok (.ireturn, 1) := by decide +kernel
theorem dL_undo_0 : decode cL_undo 0 = .ok (.aload_n 1, 1) := by decide +kernel
theorem dL_undo_1 : decode cL_undo 1 = .ok (.iconst 0, 1) := by decide +kernel
theorem dL_undo_2 : decode cL_undo 2 = .ok (.aload_n 0, 1) := by decide +kernel
theorem dL_undo_3 : decode cL_undo 3 = .ok (.invokevirtual 59, 3) := by decide +kernel
theorem dL_undo_6 : decode cL_undo 6 = .ok (.i2l, 1) := by decide +kernel
theorem dL_undo_7 : decode cL_undo 7 = .ok (.lastore, 1) := by decide +kernel
theorem dL_undo_8 : decode cL_undo 8 = .ok (.goto 6, 3) := by decide +kernel
theorem dL_undo_11 : decode cL_undo 11 = .ok (.astore_n 2, 1) := by decide +kernel
theorem dL_undo_12 : decode cL_undo 12 = .ok (.iconst 1, 1) := by decide +kernel
theorem dL_undo_13 : decode cL_undo 13 = .ok (.ireturn, 1) := by decide +kernel
theorem dL_undo_14 : decode cL_undo 14 = .ok (.iconst 0, 1) := by decide +kernel
theorem dL_undo_15 : decode cL_undo 15 = .ok (.ireturn, 1) := by decide +kernel
theorem dL_saveSnapshot_0 : decode cL_saveSnapshot 0 = .ok (.aload_n 0, 1) := by decide +kernel
theorem dL_saveSnapshot_1 : decode cL_saveSnapshot 1 = .ok (.iload_n 1, 1) := by decide +kernel
theorem dL_saveSnapshot_2 : decode cL_saveSnapshot 2 = .ok (.invokevirtual 64, 3) := by decide +kernel
theorem dL_saveSnapshot_5 : decode cL_saveSnapshot 5 = .ok (.goto 6, 3) := by decide +kernel
theorem dL_saveSnapshot_8 : decode cL_saveSnapshot 8 = .ok (.astore_n 2, 1) := by decide +kernel
theorem dL_saveSnapshot_9 : decode cL_saveSnapshot 9 = .ok (.iconst 1, 1) := by decide +kernel
theorem dL_saveSnapshot_10 : decode cL_saveSnapshot 10 = .ok (.ireturn, 1) := by decide +kernel
theorem dL_saveSnapshot_11 : decode cL_saveSnapshot 11 = .ok (.iconst 0, 1) := by decide +kernel
theorem dL_saveSnapshot_12 : decode cL_saveSnapshot 12 = .ok (.ireturn, 1) := by decide +kernel
theorem dL_restoreSnapshot_0 : decode cL_restoreSnapshot 0 = .ok (.aload_n 2, 1) := by decide +kernel
theorem dL_restoreSnapshot_1 : decode cL_restoreSnapshot 1 = .ok (.iconst 0, 1) := by decide +kernel
theorem dL_restoreSnapshot_2 : decode cL_restoreSnapshot 2 = .ok (.aload_n 0, 1) := by decide +kernel
theorem dL_restoreSnapshot_3 : decode cL_restoreSnapshot 3 = .ok (.iload_n 1, 1) := by decide +kernel
theorem dL_restoreSnapshot_4 : decode cL_restoreSnapshot 4 = .ok (.invokevirtual 68, 3) := by decide +kernel
theorem dL_restoreSnapshot_7 : decode cL_restoreSnapshot 7 = .ok (.i2l, 1) := by decide +kernel
theorem dL_restoreSnapshot_8 : decode cL_restoreSnapshot 8 = .ok (.lastore, 1) := by decide +kernel
theorem dL_restoreSnapshot_9 : decode cL_restoreSnapshot 9 = .ok (.goto 9, 3) := by decide +kernel
theorem dL_restoreSnapshot_12 : decode cL_restoreSnapshot 12 = .ok (.astore_n 3, 1) := by decide +kernel
theorem dL_restoreSnapshot_13 : decode cL_restoreSnapshot 13 = .ok (.iconst 1, 1) := by decide +kernel
theorem dL_restoreSnapshot_14 : decode cL_restoreSnapshot 14 = .ok (.ireturn, 1) := by decide +kernel
theorem dL_restoreSnapshot_15 : decode cL_restoreSnapshot 15 = .ok (.astore_n 3, 1) := by decide +kernel
theorem dL_restoreSnapshot_16 : decode cL_restoreSnapshot 16 = .ok (.iconst 2, 1) := by decide +kernel
theorem dL_restoreSnapshot_17 : decode cL_restoreSnapshot 17 = .ok (.ireturn, 1) := by decide +kernel
theorem dL_restoreSnapshot_18 : decode cL_restoreSnapshot 18 = .ok (.iconst 0, 1) := by decide +kernel
theorem dL_restoreSnapshot_19 : decode cL_restoreSnapshot 19 = .ok (.ireturn, 1) := by decide +kernel
theorem dL_eels_0 : decode cL_eels 0 = .ok (.aload_n 2, 1) := by decide +kernel
theorem dL_eels_1 : decode cL_eels 1 = .ok (.iconst 0, 1) := by decide +kernel
theorem dL_eels_2 : decode cL_eels 2 = .ok (.aload_n 0, 1) := by decide +kernel
theorem dL_eels_3 : decode cL_eels 3 = .ok (.iload_n 1, 1) := by decide +kernel
theorem dL_eels_4 : decode cL_eels 4 = .ok (.invokevirtual 71, 3) := by decide +kernel
theorem dL_eels_7 : decode cL_eels 7 = .ok (.i2l, 1) := by decide +kernel
theorem dL_eels_8 : decode cL_eels 8 = .ok (.lastore, 1) := by decide +kernel
theorem dL_eels_9 : decode cL_eels 9 = .ok (.goto 6, 3) := by decide +kernel
theorem dL_eels_12 : decode cL_eels 12 = .ok (.astore_n 3, 1) := by decide +kernel
theorem dL_eels_13 : decode cL_eels 13 = .ok (.iconst 1, 1) := by decide +kernel
theorem dL_eels_14 : decode cL_eels 14 = .ok (.ireturn, 1) := by decide +kernel
theorem dL_eels_15 : decode cL_eels 15 = .ok (.iconst 0, 1) := by decide +kernel
theorem dL_eels_16 : decode cL_eels 16 = .ok (.ireturn, 1) := by decide +kernel
theorem dL_length_0 : decode cL_length 0 = .ok (.aload_n 3, 1) := by decide +kernel
theorem dL_length_1 : decode cL_length 1 = .ok (.iconst 0, 1) := by decide +kernel
theorem dL_length_2 : decode cL_length 2 = .ok (.aload_n 0, 1) := by decide +kernel
theorem dL_length_3 : decode cL_length 3 = .ok (.iload_n 1, 1) := by decide +kernel
theorem dL_length_4 : decode cL_length 4 = .ok (.iload_n 2, 1) := by decide +kernel
theorem dL_length_5 : decode cL_length 5 = .ok (.invokevirtual 74, 3) := by decide +kernel
theorem dL_length_8 : decode cL_length 8 = .ok (.i2l, 1) := by decide +kernel
theorem dL_length_9 : decode cL_length 9 = .ok (.lastore, 1) := by decide +kernel
theorem dL_length_10 : decode cL_length 10 = .ok (.goto 7, 3) := by decide +kernel
theorem dL_length_13 : decode cL_length 13 = .ok (.astore 4, 2) := by decide +kernel
theorem dL_length_15 : decode cL_length 15 = .ok (.iconst 1, 1) := by decide +kernel
theorem dL_length_16 : decode cL_length 16 = .ok (.ireturn, 1) := by decide +kernel
theorem dL_length_17 : decode cL_length 17 = .ok (.iconst 0, 1) := by decide +kernel
theorem dL_length_18 : decode cL_length 18 = .ok (.ireturn, 1) := by decide +kernel
theorem dL_totalLength_0 : decode cL_totalLength 0 = .ok (.aload_n 2, 1) := by decide +kernel
theorem dL_totalLength_1 : decode cL_totalLength 1 = .ok (.iconst 0, 1) := by decide +kernel
theorem dL_totalLength_2 : decode cL_totalLength 2 = .ok (.aload_n 0, 1) := by decide +kernel
theorem dL_totalLength_3 : decode cL_totalLength 3 = .ok (.iload_n 1, 1) := by decide +kernel
theorem dL_totalLength_4 : decode cL_totalLength 4 = .ok (.invokevirtual 77, 3) := by decide +kernel
theorem dL_totalLength_7 : decode cL_totalLength 7 = .ok (.i2l, 1) := by decide +kernel
theorem dL_totalLength_8 : decode cL_totalLength 8 = .ok (.lastore, 1) := by decide +kernel
theorem dL_totalLength_9 : decode cL_totalLength 9 = .ok (.goto 6, 3) := by decide +kernel
theorem dL_totalLength_12 : decode cL_totalLength 12 = .ok (.astore_n 3, 1) := by decide +kernel
theorem dL_totalLength_13 : decode cL_totalLength 13 = .ok (.iconst 1, 1) := by decide +kernel
theorem dL_totalLength_14 : decode cL_totalLength 14 = .ok (.ireturn, 1) := by decide +kernel
theorem dL_totalLength_15 : decode cL_totalLength 15 = .ok (.iconst 0, 1) := by decide +kernel
theorem dL_totalLength_16 : decode cL_totalLength 16 = .ok (.ireturn, 1) := by decide +kernel
theorem dL_greatestLength_0 : decode cL_greatestLength 0 = .ok (.aload_n 2, 1) := by decide +kernel
theorem dL_greatestLength_1 : decode cL_greatestLength 1 = .ok (.iconst 0, 1) := by decide +kernel
theorem dL_greatestLength_2 : decode cL_greatestLength 2 = .ok (.aload_n 0, 1) := by decide +kernel
theorem dL_greatestLength_3 : decode cL_greatestLength 3 = .ok (.iload_n 1, 1) := by decide +kernel
theorem dL_greatestLength_4 : decode cL_greatestLength 4 = .ok (.invokevirtual 80, 3) := by decide +kernel
theorem dL_greatestLength_7 : decode cL_greatestLength 7 = .ok (.i2l, 1) := by decide +kernel
theorem dL_greatestLength_8 : decode cL_greatestLength 8 = .ok (.lastore, 1) := by decide +kernel
theorem dL_greatestLength_9 : decode cL_greatestLength 9 = .ok (.goto 6, 3) := by decide +kernel
theorem dL_greatestLength_12 : decode cL_greatestLength 12 = .ok (.astore_n 3, 1) := by decide +kernel
theorem dL_greatestLength_13 : decode cL_greatestLength 13 = .ok (.iconst 1, 1) := by decide +kernel
theorem dL_greatestLength_14 : decode cL_greatestLength 14 = .ok (.ireturn, 1) := by decide +kernel
theorem dL_greatestLength_15 : decode cL_greatestLength 15 = .ok (.iconst 0, 1) := by decide +kernel
theorem dL_greatestLength_16 : decode cL_greatestLength 16 = .ok (.ireturn, 1) := by decide +kernel
theorem dL_middleLength_0 : decode cL_middleLength 0 = .ok (.aload_n 2, 1) := by decide +kernel
theorem dL_middleLength_1 : decode cL_middleLength 1 = .ok (.iconst 0, 1) := by decide +kernel
theorem dL_middleLength_2 : decode cL_middleLength 2 = .ok (.aload_n 0, 1) := by decide +kernel
theorem dL_middleLength_3 : decode cL_middleLength 3 = .ok (.iload_n 1, 1) := by decide +kernel
theorem dL_middleLength_4 : decode cL_middleLength 4 = .ok (.invokevirtual 83, 3) := by decide +kernel
theorem dL_middleLength_7 : decode cL_middleLength 7 = .ok (.i2l, 1) := by decide +kernel
theorem dL_middleLength_8 : decode cL_middleLength 8 = .ok (.lastore, 1) := by decide +kernel
theorem dL_middleLength_9 : decode cL_middleLength 9 = .ok (.goto 6, 3) := by decide +kernel
theorem dL_middleLength_12 : decode cL_middleLength 12 = .ok (.astore_n 3, 1) := by decide +kernel
theorem dL_middleLength_13 : decode cL_middleLength 13 = .ok (.iconst 1, 1) := by decide +kernel
theorem dL_middleLength_14 : decode cL_middleLength 14 = .ok (.ireturn, 1) := by decide +kernel
theorem dL_middleLength_15 : decode cL_middleLength 15 = .ok (.iconst 0, 1) := by decide +kernel
theorem dL_middleLength_16 : decode cL_middleLength 16 = .ok (.ireturn, 1) := by decide +kernel
theorem dL_reserve_0 : decode cL_reserve 0 = .ok (.aload_n 2, 1) := by decide +kernel
theorem dL_reserve_1 : decode cL_reserve 1 = .ok (.iconst 0, 1) := by decide +kernel
theorem dL_reserve_2 : decode cL_reserve 2 = .ok (.aload_n 0, 1) := by decide +kernel
theorem dL_reserve_3 : decode cL_reserve 3 = .ok (.iload_n 1, 1) := by decide +kernel
theorem dL_reserve_4 : decode cL_reserve 4 = .ok (.invokevirtual 86, 3) := by decide +kernel
theorem dL_reserve_7 : decode cL_reserve 7 = .ok (.i2l, 1) := by decide +kernel
theorem dL_reserve_8 : decode cL_reserve 8 = .ok (.lastore, 1) := by decide +kernel
theorem dL_reserve_9 : decode cL_reserve 9 = .ok (.goto 6, 3) := by decide +kernel
theorem dL_reserve_12 : decode cL_reserve 12 = .ok (.astore_n 3, 1) := by decide +kernel
theorem dL_reserve_13 : decode cL_reserve 13 = .ok (.iconst 1, 1) := by decide +kernel
theorem dL_reserve_14 : decode cL_reserve 14 = .ok (.ireturn, 1) := by decide +kernel
theorem dL_reserve_15 : decode cL_reserve 15 = .ok (.iconst 0, 1) := by decide +kernel
theorem dL_reserve_16 : decode cL_reserve 16 = .ok (.ireturn, 1) := by decide +kernel
theorem dL_stateOf_0 : decode cL_stateOf 0 = .ok (.aload_n 2, 1) := by decide +kernel
theorem dL_stateOf_1 : decode cL_stateOf 1 = .ok (.iconst 0, 1) := by decide +kernel
theorem dL_stateOf_2 : decode cL_stateOf 2 = .ok (.aload_n 0, 1) := by decide +kernel
theorem dL_stateOf_3 : decode cL_stateOf 3 = .ok (.iload_n 1, 1) := by decide +kernel
theorem dL_stateOf_4 : decode cL_stateOf 4 = .ok (.invokevirtual 89, 3) := by decide +kernel
theorem dL_stateOf_7 : decode cL_stateOf 7 = .ok (.i2l, 1) := by decide +kernel
theorem dL_stateOf_8 : decode cL_stateOf 8 = .ok (.lastore, 1) := by decide +kernel
theorem dL_stateOf_9 : decode cL_stateOf 9 = .ok (.goto 6, 3) := by decide +kernel
theorem dL_stateOf_12 : decode cL_stateOf 12 = .ok (.astore_n 3, 1) := by decide +kernel
theorem dL_stateOf_13 : decode cL_stateOf 13 = .ok (.iconst 1, 1) := by decide +kernel
theorem dL_stateOf_14 : decode cL_stateOf 14 = .ok (.ireturn, 1) := by decide +kernel
theorem dL_stateOf_15 : decode cL_stateOf 15 = .ok (.iconst 0, 1) := by decide +kernel
theorem dL_stateOf_16 : decode cL_stateOf 16 = .ok (.ireturn, 1) := by decide +kernel
theorem dL_returns_0 : decode cL_returns 0 = .ok (.aload_n 2, 1) := by decide +kernel
theorem dL_returns_1 : decode cL_returns 1 = .ok (.iconst 0, 1) := by decide +kernel
theorem dL_returns_2 : decode cL_returns 2 = .ok (.aload_n 0, 1) := by decide +kernel
theorem dL_returns_3 : decode cL_returns 3 = .ok (.iload_n 1, 1) := by decide +kernel
theorem dL_returns_4 : decode cL_returns 4 = .ok (.invokevirtual 92, 3) := by decide +kernel
theorem dL_returns_7 : decode cL_returns 7 = .ok (.i2l, 1) := by decide +kernel
theorem dL_returns_8 : decode cL_returns 8 = .ok (.lastore, 1) := by decide +kernel
theorem dL_returns_9 : decode cL_returns 9 = .ok (.goto 6, 3) := by decide +kernel
theorem dL_returns_12 : decode cL_returns 12 = .ok (.astore_n 3, 1) := by decide +kernel
theorem dL_returns_13 : decode cL_returns 13 = .ok (.iconst 1, 1) := by decide +kernel
theorem dL_returns_14 : decode cL_returns 14 = .ok (.ireturn, 1) := by decide +kernel
theorem dL_returns_15 : decode cL_returns 15 = .ok (.iconst 0, 1) := by decide +kernel
theorem dL_returns_16 : decode cL_returns 16 = .ok (.ireturn, 1) := by decide +kernel
theorem dL_buyerOf_0 : decode cL_buyerOf 0 = .ok (.aload_n 2, 1) := by decide +kernel
theorem dL_buyerOf_1 : decode cL_buyerOf 1 = .ok (.iconst 0, 1) := by decide +kernel
theorem dL_buyerOf_2 : decode cL_buyerOf 2 = .ok (.aload_n 0, 1) := by decide +kernel
theorem dL_buyerOf_3 : decode cL_buyerOf 3 = .ok (.iload_n 1, 1) := by decide +kernel
theorem dL_buyerOf_4 : decode cL_buyerOf 4 = .ok (.invokevirtual 95, 3) := by decide +kernel
theorem dL_buyerOf_7 : decode cL_buyerOf 7 = .ok (.i2l, 1) := by decide +kernel
theorem dL_buyerOf_8 : decode cL_buyerOf 8 = .ok (.lastore, 1) := by decide +kernel
theorem dL_buyerOf_9 : decode cL_buyerOf 9 = .ok (.goto 6, 3) := by decide +kernel
theorem dL_buyerOf_12 : decode cL_buyerOf 12 = .ok (.astore_n 3, 1) := by decide +kernel
theorem dL_buyerOf_13 : decode cL_buyerOf 13 = .ok (.iconst 1, 1) := by decide +kernel
theorem dL_buyerOf_14 : decode cL_buyerOf 14 = .ok (.ireturn, 1) := by decide +kernel
theorem dL_buyerOf_15 : decode cL_buyerOf 15 = .ok (.iconst 0, 1) := by decide +kernel
theorem dL_buyerOf_16 : decode cL_buyerOf 16 = .ok (.ireturn, 1) := by decide +kernel
theorem dL_priceOf_0 : decode cL_priceOf 0 = .ok (.aload_n 2, 1) := by decide +kernel
theorem dL_priceOf_1 : decode cL_priceOf 1 = .ok (.iconst 0, 1) := by decide +kernel
theorem dL_priceOf_2 : decode cL_priceOf 2 = .ok (.aload_n 0, 1) := by decide +kernel
theorem dL_priceOf_3 : decode cL_priceOf 3 = .ok (.iload_n 1, 1) := by decide +kernel
theorem dL_priceOf_4 : decode cL_priceOf 4 = .ok (.invokevirtual 98, 3) := by decide +kernel
theorem dL_priceOf_7 : decode cL_priceOf 7 = .ok (.i2l, 1) := by decide +kernel
theorem dL_priceOf_8 : decode cL_priceOf 8 = .ok (.lastore, 1) := by decide +kernel
theorem dL_priceOf_9 : decode cL_priceOf 9 = .ok (.goto 6, 3) := by decide +kernel
theorem dL_priceOf_12 : decode cL_priceOf 12 = .ok (.astore_n 3, 1) := by decide +kernel
theorem dL_priceOf_13 : decode cL_priceOf 13 = .ok (.iconst 1, 1) := by decide +kernel
theorem dL_priceOf_14 : decode cL_priceOf 14 = .ok (.ireturn, 1) := by decide +kernel
theorem dL_priceOf_15 : decode cL_priceOf 15 = .ok (.iconst 0, 1) := by decide +kernel
theorem dL_priceOf_16 : decode cL_priceOf 16 = .ok (.ireturn, 1) := by decide +kernel
theorem dL_pricePerLength_0 : decode cL_pricePerLength 0 = .ok (.aload_n 2, 1) := by decide +kernel
theorem dL_pricePerLength_1 : decode cL_pricePerLength 1 = .ok (.iconst 0, 1) := by decide +kernel
theorem dL_pricePerLength_2 : decode cL_pricePerLength 2 = .ok (.aload_n 0, 1) := by decide +kernel
theorem dL_pricePerLength_3 : decode cL_pricePerLength 3 = .ok (.iload_n 1, 1) := by decide +kernel
theorem dL_pricePerLength_4 : decode cL_pricePerLength 4 = .ok (.invokevirtual 101, 3) := by decide +kernel
theorem dL_pricePerLength_7 : decode cL_pricePerLength 7 = .ok (.f2d, 1) := by decide +kernel
theorem dL_pricePerLength_8 : decode cL_pricePerLength 8 = .ok (.dastore, 1) := by decide +kernel
theorem dL_pricePerLength_9 : decode cL_pricePerLength 9 = .ok (.goto 6, 3) := by decide +kernel
theorem dL_pricePerLength_12 : decode cL_pricePerLength 12 = .ok (.astore_n 3, 1) := by decide +kernel
theorem dL_pricePerLength_13 : decode cL_pricePerLength 13 = .ok (.iconst 1, 1) := by decide +kernel
theorem dL_pricePerLength_14 : decode cL_pricePerLength 14 = .ok (.ireturn, 1) := by decide +kernel
theorem dL_pricePerLength_15 : decode cL_pricePerLength 15 = .ok (.iconst 0, 1) := by decide +kernel
theorem dL_pricePerLength_16 : decode cL_pricePerLength 16 = .ok (.ireturn, 1) := by decide +kernel
theorem dL_purse_0 : decode cL_purse 0 = .ok (.aload_n 2, 1) := by decide +kernel
theorem dL_purse_1 : decode cL_purse 1 = .ok (.iconst 0, 1) := by decide +kernel
theorem dL_purse_2 : decode cL_purse 2 = .ok (.aload_n 0, 1) := by decide +kernel
theorem dL_purse_3 : decode cL_purse 3 = .ok (.iload_n 1, 1) := by decide +kernel
theorem dL_purse_4 : decode cL_purse 4 = .ok (.invokevirtual 105, 3) := by decide +kernel
theorem dL_purse_7 : decode cL_purse 7 = .ok (.i2l, 1) := by decide +kernel
theorem dL_purse_8 : decode cL_purse 8 = .ok (.lastore, 1) := by decide +kernel
theorem dL_purse_9 : decode cL_purse 9 = .ok (.goto 6, 3) := by decide +kernel
theorem dL_purse_12 : decode cL_purse 12 = .ok (.astore_n 3, 1) := by decide +kernel
theorem dL_purse_13 : decode cL_purse 13 = .ok (.iconst 1, 1) := by decide +kernel
theorem dL_purse_14 : decode cL_purse 14 = .ok (.ireturn, 1) := by decide +kernel
theorem dL_purse_15 : decode cL_purse 15 = .ok (.iconst 0, 1) := by decide +kernel
theorem dL_purse_16 : decode cL_purse 16 = .ok (.ireturn, 1) := by decide +kernel
theorem dL_style_0 : decode cL_style 0 = .ok (.aload_n 2, 1) := by decide +kernel
theorem dL_style_1 : decode cL_style 1 = .ok (.iconst 0, 1) := by decide +kernel
theorem dL_style_2 : decode cL_style 2 = .ok (.aload_n 0, 1) := by decide +kernel
theorem dL_style_3 : decode cL_style 3 = .ok (.iload_n 1, 1) := by decide +kernel
theorem dL_style_4 : decode cL_style 4 = .ok (.invokevirtual 108, 3) := by decide +kernel
theorem dL_style_7 : decode cL_style 7 = .ok (.i2l, 1) := by decide +kernel
theorem dL_style_8 : decode cL_style 8 = .ok (.lastore, 1) := by decide +kernel
theorem dL_style_9 : decode cL_style 9 = .ok (.goto 6, 3) := by decide +kernel
theorem dL_style_12 : decode cL_style 12 = .ok (.astore_n 3, 1) := by decide +kernel
theorem dL_style_13 : decode cL_style 13 = .ok (.iconst 1, 1) := by decide +kernel
theorem dL_style_14 : decode cL_style 14 = .ok (.ireturn, 1) := by decide +kernel
theorem dL_style_15 : decode cL_style 15 = .ok (.iconst 0, 1) := by decide +kernel
theorem dL_style_16 : decode cL_style 16 = .ok (.ireturn, 1) := by decide +kernel
theorem dL_factor_0 : decode cL_factor 0 = .ok (.aload_n 2, 1) := by decide +kernel
theorem dL_factor_1 : decode cL_factor 1 = .ok (.iconst 0, 1) := by decide +kernel
theorem dL_factor_2 : decode cL_factor 2 = .ok (.aload_n 0, 1) := by decide +kernel
theorem dL_factor_3 : decode cL_factor 3 = .ok (.iload_n 1, 1) := by decide +kernel
theorem dL_factor_4 : decode cL_factor 4 = .ok (.invokevirtual 111, 3) := by decide +kernel
theorem dL_factor_7 : decode cL_factor 7 = .ok (.i2l, 1) := by decide +kernel
theorem dL_factor_8 : decode cL_factor 8 = .ok (.lastore, 1) := by decide +kernel
theorem dL_factor_9 : decode cL_factor 9 = .ok (.goto 6, 3) := by decide +kernel
theorem dL_factor_12 : decode cL_factor 12 = .ok (.astore_n 3, 1) := by decide +kernel
theorem dL_factor_13 : decode cL_factor 13 = .ok (.iconst 1, 1) := by decide +kernel
theorem dL_factor_14 : decode cL_factor 14 = .ok (.ireturn, 1) := by decide +kernel
theorem dL_factor_15 : decode cL_factor 15 = .ok (.iconst 0, 1) := by decide +kernel
theorem dL_factor_16 : decode cL_factor 16 = .ok (.ireturn, 1) := by decide +kernel
theorem dL_bought_0 : decode cL_bought 0 = .ok (.aload_n 2, 1) := by decide +kernel
theorem dL_bought_1 : decode cL_bought 1 = .ok (.iconst 0, 1) := by decide +kernel
theorem dL_bought_2 : decode cL_bought 2 = .ok (.aload_n 0, 1) := by decide +kernel
theorem dL_bought_3 : decode cL_bought 3 = .ok (.iload_n 1, 1) := by decide +kernel
theorem dL_bought_4 : decode cL_bought 4 = .ok (.invokevirtual 114, 3) := by decide +kernel
theorem dL_bought_7 : decode cL_bought 7 = .ok (.i2l, 1) := by decide +kernel
theorem dL_bought_8 : decode cL_bought 8 = .ok (.lastore, 1) := by decide +kernel
theorem dL_bought_9 : decode cL_bought 9 = .ok (.goto 6, 3) := by decide +kernel
theorem dL_bought_12 : decode cL_bought 12 = .ok (.astore_n 3, 1) := by decide +kernel
theorem dL_bought_13 : decode cL_bought 13 = .ok (.iconst 1, 1) := by decide +kernel
theorem dL_bought_14 : decode cL_bought 14 = .ok (.ireturn, 1) := by decide +kernel
theorem dL_bought_15 : decode cL_bought 15 = .ok (.iconst 0, 1) := by decide +kernel
theorem dL_bought_16 : decode cL_bought 16 = .ok (.ireturn, 1) := by decide +kernel
theorem dL_nods_0 : decode cL_nods 0 = .ok (.aload_n 2, 1) := by decide +kernel
theorem dL_nods_1 : decode cL_nods 1 = .ok (.iconst 0, 1) := by decide +kernel
theorem dL_nods_2 : decode cL_nods 2 = .ok (.aload_n 0, 1) := by decide +kernel
theorem dL_nods_3 : decode cL_nods 3 = .ok (.iload_n 1, 1) := by decide +kernel
theorem dL_nods_4 : decode cL_nods 4 = .ok (.invokevirtual 117, 3) := by decide +kernel
theorem dL_nods_7 : decode cL_nods 7 = .ok (.i2l, 1) := by decide +kernel
theorem dL_nods_8 : decode cL_nods 8 = .ok (.lastore, 1) := by decide +kernel
theorem dL_nods_9 : decode cL_nods 9 = .ok (.goto 6, 3) := by decide +kernel
theorem dL_nods_12 : decode cL_nods 12 = .ok (.astore_n 3, 1) := by decide +kernel
theorem dL_nods_13 : decode cL_nods 13 = .ok (.iconst 1, 1) := by decide +kernel
theorem dL_nods_14 : decode cL_nods 14 = .ok (.ireturn, 1) := by decide +kernel
theorem dL_nods_15 : decode cL_nods 15 = .ok (.iconst 0, 1) := by decide +kernel
theorem dL_nods_16 : decode cL_nods 16 = .ok (.ireturn, 1) := by decide +kernel
theorem dL_worth_0 : decode cL_worth 0 = .ok (.aload_n 3, 1) := by decide +kernel
theorem dL_worth_1 : decode cL_worth 1 = .ok (.iconst 0, 1) := by decide +kernel
theorem dL_worth_2 : decode cL_worth 2 = .ok (.aload_n 0, 1) := by decide +kernel
theorem dL_worth_3 : decode cL_worth 3 = .ok (.iload_n 1, 1) := by decide +kernel
theorem dL_worth_4 : decode cL_worth 4 = .ok (.iload_n 2, 1) := by decide +kernel
theorem dL_worth_5 : decode cL_worth 5 = .ok (.invokevirtual 120, 3) := by decide +kernel
theorem dL_worth_8 : decode cL_worth 8 = .ok (.dastore, 1) := by decide +kernel
theorem dL_worth_9 : decode cL_worth 9 = .ok (.goto 7, 3) := by decide +kernel
theorem dL_worth_12 : decode cL_worth 12 = .ok (.astore 4, 2) := by decide +kernel
theorem dL_worth_14 : decode cL_worth 14 = .ok (.iconst 1, 1) := by decide +kernel
theorem dL_worth_15 : decode cL_worth 15 = .ok (.ireturn, 1) := by decide +kernel
theorem dL_worth_16 : decode cL_worth 16 = .ok (.iconst 0, 1) := by decide +kernel
theorem dL_worth_17 : decode cL_worth 17 = .ok (.ireturn, 1) := by decide +kernel
theorem dL_whyNotNod_0 : decode cL_whyNotNod 0 = .ok (.aload_n 2, 1) := by decide +kernel
theorem dL_whyNotNod_1 : decode cL_whyNotNod 1 = .ok (.iconst 0, 1) := by decide +kernel
theorem dL_whyNotNod_2 : decode cL_whyNotNod 2 = .ok (.aload_n 0, 1) := by decide +kernel
theorem dL_whyNotNod_3 : decode cL_whyNotNod 3 = .ok (.iload_n 1, 1) := by decide +kernel
theorem dL_whyNotNod_4 : decode cL_whyNotNod 4 = .ok (.invokevirtual 124, 3) := by decide +kernel
theorem dL_whyNotNod_7 : decode cL_whyNotNod 7 = .ok (.i2l, 1) := by decide +kernel
theorem dL_whyNotNod_8 : decode cL_whyNotNod 8 = .ok (.lastore, 1) := by decide +kernel
theorem dL_whyNotNod_9 : decode cL_whyNotNod 9 = .ok (.goto 6, 3) := by decide +kernel
theorem dL_whyNotNod_12 : decode cL_whyNotNod 12 = .ok (.astore_n 3, 1) := by decide +kernel
theorem dL_whyNotNod_13 : decode cL_whyNotNod 13 = .ok (.iconst 1, 1) := by decide +kernel
theorem dL_whyNotNod_14 : decode cL_whyNotNod 14 = .ok (.ireturn, 1) := by decide +kernel
theorem dL_whyNotNod_15 : decode cL_whyNotNod 15 = .ok (.iconst 0, 1) := by decide +kernel
theorem dL_whyNotNod_16 : decode cL_whyNotNod 16 = .ok (.ireturn, 1) := by decide +kernel
theorem dL_costOf_0 : decode cL_costOf 0 = .ok (.aload_n 2, 1) := by decide +kernel
theorem dL_costOf_1 : decode cL_costOf 1 = .ok (.iconst 0, 1) := by decide +kernel
theorem dL_costOf_2 : decode cL_costOf 2 = .ok (.aload_n 0, 1) := by decide +kernel
theorem dL_costOf_3 : decode cL_costOf 3 = .ok (.iload_n 1, 1) := by decide +kernel
theorem dL_costOf_4 : decode cL_costOf 4 = .ok (.invokevirtual 127, 3) := by decide +kernel
theorem dL_costOf_7 : decode cL_costOf 7 = .ok (.i2l, 1) := by decide +kernel
theorem dL_costOf_8 : decode cL_costOf 8 = .ok (.lastore, 1) := by decide +kernel
theorem dL_costOf_9 : decode cL_costOf 9 = .ok (.goto 6, 3) := by decide +kernel
theorem dL_costOf_12 : decode cL_costOf 12 = .ok (.astore_n 3, 1) := by decide +kernel
theorem dL_costOf_13 : decode cL_costOf 13 = .ok (.iconst 1, 1) := by decide +kernel
theorem dL_costOf_14 : decode cL_costOf 14 = .ok (.ireturn, 1) := by decide +kernel
theorem dL_costOf_15 : decode cL_costOf 15 = .ok (.iconst 0, 1) := by decide +kernel
theorem dL_costOf_16 : decode cL_costOf 16 = .ok (.ireturn, 1) := by decide +kernel
theorem dL_keenestBuyer_0 : decode cL_keenestBuyer 0 = .ok (.aload_n 2, 1) := by decide +kernel
theorem dL_keenestBuyer_1 : decode cL_keenestBuyer 1 = .ok (.iconst 0, 1) := by decide +kernel
theorem dL_keenestBuyer_2 : decode cL_keenestBuyer 2 = .ok (.aload_n 0, 1) := by decide +kernel
theorem dL_keenestBuyer_3 : decode cL_keenestBuyer 3 = .ok (.iload_n 1, 1) := by decide +kernel
theorem dL_keenestBuyer_4 : decode cL_keenestBuyer 4 = .ok (.invokevirtual 130, 3) := by decide +kernel
theorem dL_keenestBuyer_7 : decode cL_keenestBuyer 7 = .ok (.i2l, 1) := by decide +kernel
theorem dL_keenestBuyer_8 : decode cL_keenestBuyer 8 = .ok (.lastore, 1) := by decide +kernel
theorem dL_keenestBuyer_9 : decode cL_keenestBuyer 9 = .ok (.goto 6, 3) := by decide +kernel
theorem dL_keenestBuyer_12 : decode cL_keenestBuyer 12 = .ok (.astore_n 3, 1) := by decide +kernel
theorem dL_keenestBuyer_13 : decode cL_keenestBuyer 13 = .ok (.iconst 1, 1) := by decide +kernel
theorem dL_keenestBuyer_14 : decode cL_keenestBuyer 14 = .ok (.ireturn, 1) := by decide +kernel
theorem dL_keenestBuyer_15 : decode cL_keenestBuyer 15 = .ok (.iconst 0, 1) := by decide +kernel
theorem dL_keenestBuyer_16 : decode cL_keenestBuyer 16 = .ok (.ireturn, 1) := by decide +kernel
theorem dL_minutesToSale_0 : decode cL_minutesToSale 0 = .ok (.aload_n 2, 1) := by decide +kernel
theorem dL_minutesToSale_1 : decode cL_minutesToSale 1 = .ok (.iconst 0, 1) := by decide +kernel
theorem dL_minutesToSale_2 : decode cL_minutesToSale 2 = .ok (.aload_n 0, 1) := by decide +kernel
theorem dL_minutesToSale_3 : decode cL_minutesToSale 3 = .ok (.iload_n 1, 1) := by decide +kernel
theorem dL_minutesToSale_4 : decode cL_minutesToSale 4 = .ok (.invokevirtual 133, 3) := by decide +kernel
theorem dL_minutesToSale_7 : decode cL_minutesToSale 7 = .ok (.i2l, 1) := by decide +kernel
theorem dL_minutesToSale_8 : decode cL_minutesToSale 8 = .ok (.lastore, 1) := by decide +kernel
theorem dL_minutesToSale_9 : decode cL_minutesToSale 9 = .ok (.goto 6, 3) := by decide +kernel
theorem dL_minutesToSale_12 : decode cL_minutesToSale 12 = .ok (.astore_n 3, 1) := by decide +kernel
theorem dL_minutesToSale_13 : decode cL_minutesToSale 13 = .ok (.iconst 1, 1) := by decide +kernel
theorem dL_minutesToSale_14 : decode cL_minutesToSale 14 = .ok (.ireturn, 1) := by decide +kernel
theorem dL_minutesToSale_15 : decode cL_minutesToSale 15 = .ok (.iconst 0, 1) := by decide +kernel
theorem dL_minutesToSale_16 : decode cL_minutesToSale 16 = .ok (.ireturn, 1) := by decide +kernel
theorem dL_buyerAfter_0 : decode cL_buyerAfter 0 = .ok (.aload_n 3, 1) := by decide +kernel
theorem dL_buyerAfter_1 : decode cL_buyerAfter 1 = .ok (.iconst 0, 1) := by decide +kernel
theorem dL_buyerAfter_2 : decode cL_buyerAfter 2 = .ok (.aload_n 0, 1) := by decide +kernel
theorem dL_buyerAfter_3 : decode cL_buyerAfter 3 = .ok (.iload_n 1, 1) := by decide +kernel
theorem dL_buyerAfter_4 : decode cL_buyerAfter 4 = .ok (.iload_n 2, 1) := by decide +kernel
theorem dL_buyerAfter_5 : decode cL_buyerAfter 5 = .ok (.invokevirtual 136, 3) := by decide +kernel
theorem dL_buyerAfter_8 : decode cL_buyerAfter 8 = .ok (.i2l, 1) := by decide +kernel
theorem dL_buyerAfter_9 : decode cL_buyerAfter 9 = .ok (.lastore, 1) := by decide +kernel
theorem dL_buyerAfter_10 : decode cL_buyerAfter 10 = .ok (.goto 11, 3) := by decide +kernel
theorem dL_buyerAfter_13 : decode cL_buyerAfter 13 = .ok (.astore 4, 2) := by decide +kernel
theorem dL_buyerAfter_15 : decode cL_buyerAfter 15 = .ok (.iconst 1, 1) := by decide +kernel
theorem dL_buyerAfter_16 : decode cL_buyerAfter 16 = .ok (.ireturn, 1) := by decide +kernel
theorem dL_buyerAfter_17 : decode cL_buyerAfter 17 = .ok (.astore 4, 2) := by decide +kernel
theorem dL_buyerAfter_19 : decode cL_buyerAfter 19 = .ok (.iconst 2, 1) := by decide +kernel
theorem dL_buyerAfter_20 : decode cL_buyerAfter 20 = .ok (.ireturn, 1) := by decide +kernel
theorem dL_buyerAfter_21 : decode cL_buyerAfter 21 = .ok (.iconst 0, 1) := by decide +kernel
theorem dL_buyerAfter_22 : decode cL_buyerAfter 22 = .ok (.ireturn, 1) := by decide +kernel
theorem dL_sellerCoinsAfter_0 : decode cL_sellerCoinsAfter 0 = .ok (.aload_n 2, 1) := by decide +kernel
theorem dL_sellerCoinsAfter_1 : decode cL_sellerCoinsAfter 1 = .ok (.iconst 0, 1) := by decide +kernel
theorem dL_sellerCoinsAfter_2 : decode cL_sellerCoinsAfter 2 = .ok (.aload_n 0, 1) := by decide +kernel
theorem dL_sellerCoinsAfter_3 : decode cL_sellerCoinsAfter 3 = .ok (.iload_n 1, 1) := by decide +kernel
theorem dL_sellerCoinsAfter_4 : decode cL_sellerCoinsAfter 4 = .ok (.invokevirtual 139, 3) := by decide +kernel
theorem dL_sellerCoinsAfter_7 : decode cL_sellerCoinsAfter 7 = .ok (.i2l, 1) := by decide +kernel
theorem dL_sellerCoinsAfter_8 : decode cL_sellerCoinsAfter 8 = .ok (.lastore, 1) := by decide +kernel
theorem dL_sellerCoinsAfter_9 : decode cL_sellerCoinsAfter 9 = .ok (.goto 6, 3) := by decide +kernel
theorem dL_sellerCoinsAfter_12 : decode cL_sellerCoinsAfter 12 = .ok (.astore_n 3, 1) := by decide +kernel
theorem dL_sellerCoinsAfter_13 : decode cL_sellerCoinsAfter 13 = .ok (.iconst 1, 1) := by decide +kernel
theorem dL_sellerCoinsAfter_14 : decode cL_sellerCoinsAfter 14 = .ok (.ireturn, 1) := by decide +kernel
theorem dL_sellerCoinsAfter_15 : decode cL_sellerCoinsAfter 15 = .ok (.iconst 0, 1) := by decide +kernel
theorem dL_sellerCoinsAfter_16 : decode cL_sellerCoinsAfter 16 = .ok (.ireturn, 1) := by decide +kernel
theorem dL_bestStep_0 : decode cL_bestStep 0 = .ok (.aload_n 2, 1) := by decide +kernel
theorem dL_bestStep_1 : decode cL_bestStep 1 = .ok (.iconst 0, 1) := by decide +kernel
theorem dL_bestStep_2 : decode cL_bestStep 2 = .ok (.aload_n 0, 1) := by decide +kernel
theorem dL_bestStep_3 : decode cL_bestStep 3 = .ok (.iload_n 1, 1) := by decide +kernel
theorem dL_bestStep_4 : decode cL_bestStep 4 = .ok (.invokevirtual 142, 3) := by decide +kernel
theorem dL_bestStep_7 : decode cL_bestStep 7 = .ok (.i2l, 1) := by decide +kernel
theorem dL_bestStep_8 : decode cL_bestStep 8 = .ok (.lastore, 1) := by decide +kernel
theorem dL_bestStep_9 : decode cL_bestStep 9 = .ok (.goto 6, 3) := by decide +kernel
theorem dL_bestStep_12 : decode cL_bestStep 12 = .ok (.astore_n 3, 1) := by decide +kernel
theorem dL_bestStep_13 : decode cL_bestStep 13 = .ok (.iconst 1, 1) := by decide +kernel
theorem dL_bestStep_14 : decode cL_bestStep 14 = .ok (.ireturn, 1) := by decide +kernel
theorem dL_bestStep_15 : decode cL_bestStep 15 = .ok (.iconst 0, 1) := by decide +kernel
theorem dL_bestStep_16 : decode cL_bestStep 16 = .ok (.ireturn, 1) := by decide +kernel
theorem dL_writeBarrel_0 : decode cL_writeBarrel 0 = .ok (.aload_n 2, 1) := by decide +kernel
theorem dL_writeBarrel_1 : decode cL_writeBarrel 1 = .ok (.iconst 0, 1) := by decide +kernel
theorem dL_writeBarrel_2 : decode cL_writeBarrel 2 = .ok (.aload_n 0, 1) := by decide +kernel
theorem dL_writeBarrel_3 : decode cL_writeBarrel 3 = .ok (.iload_n 1, 1) := by decide +kernel
theorem dL_writeBarrel_4 : decode cL_writeBarrel 4 = .ok (.invokevirtual 145, 3) := by decide +kernel
theorem dL_writeBarrel_7 : decode cL_writeBarrel 7 = .ok (.i2l, 1) := by decide +kernel
theorem dL_writeBarrel_8 : decode cL_writeBarrel 8 = .ok (.lastore, 1) := by decide +kernel
theorem dL_writeBarrel_9 : decode cL_writeBarrel 9 = .ok (.goto 6, 3) := by decide +kernel
theorem dL_writeBarrel_12 : decode cL_writeBarrel 12 = .ok (.astore_n 3, 1) := by decide +kernel
theorem dL_writeBarrel_13 : decode cL_writeBarrel 13 = .ok (.iconst 1, 1) := by decide +kernel
theorem dL_writeBarrel_14 : decode cL_writeBarrel 14 = .ok (.ireturn, 1) := by decide +kernel
theorem dL_writeBarrel_15 : decode cL_writeBarrel 15 = .ok (.iconst 0, 1) := by decide +kernel
theorem dL_writeBarrel_16 : decode cL_writeBarrel 16 = .ok (.ireturn, 1) := by decide +kernel
