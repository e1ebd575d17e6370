theorem fl_11_232 : ow_fl RX11 232 11 13 := ⟨_, rfl, by decide, ow_T_in 1648 (by decide +kernel) (by decide +kernel), ow_ok11⟩
theorem fw_11_13 : ∃ r : vw_C, ow_cl[11]? = some r ∧ (r.2.1 13).2.2.2 = false ∧ parseFieldDescriptor (r.2.1 13).2.2.1 = some .int := ⟨_, rfl, rfl, by decide +kernel⟩
theorem lk_11_38 : ow_lv RX11 38 yX11_beginMarket cX11_beginMarket 7 none 5 := ⟨ow_T_in 1603 (by decide +kernel) (by decide +kernel), ow_T_in 1605 (by decide +kernel) (by decide +kernel), ow_T_sel 35 (by decide +kernel) (by decide +kernel), ow_T_in 19 (by decide +kernel) (by decide +kernel), ow_T_in 1606 (by decide +kernel) (by decide +kernel), ⟨by decide +kernel, by decide +kernel, by decide +kernel⟩⟩
theorem lk_11_42 : ow_lv RX11 42 yX11_addBuyer cX11_addBuyer 5 none 3 := ⟨ow_T_in 1607 (by decide +kernel) (by decide +kernel), ow_T_in 1609 (by decide +kernel) (by decide +kernel), ow_T_sel 36 (by decide +kernel) (by decide +kernel), ow_T_in 19 (by decide +kernel) (by decide +kernel), ow_T_in 1610 (by decide +kernel) (by decide +kernel), ⟨by decide +kernel, by decide +kernel, by decide +kernel⟩⟩
theorem lk_11_223 : ow_lv RX11 223 yX11_wordOf cX11_wordOf 2 (some .int) 0 := ⟨ow_T_in 1769 (by decide +kernel) (by decide +kernel), ow_T_in 1771 (by decide +kernel) (by decide +kernel), ow_T_sel 54 (by decide +kernel) (by decide +kernel), ow_T_in 19 (by decide +kernel) (by decide +kernel), ow_T_in 1772 (by decide +kernel) (by decide +kernel), ⟨by decide +kernel, by decide +kernel, by decide +kernel⟩⟩
theorem lk_11_226 : ow_lv RX11 226 yX11_failsAtNumber cX11_failsAtNumber 4 (some .boolean) 3 := ⟨ow_T_in 1781 (by decide +kernel) (by decide +kernel), ow_T_in 1783 (by decide +kernel) (by decide +kernel), ow_T_sel 57 (by decide +kernel) (by decide +kernel), ow_T_in 19 (by decide +kernel) (by decide +kernel), ow_T_in 1784 (by decide +kernel) (by decide +kernel), ⟨by decide +kernel, by decide +kernel, by decide +kernel⟩⟩
theorem lk_11_229 : ow_lv RX11 229 yX11_failsAtNext cX11_failsAtNext 1 (some .boolean) 0 := ⟨ow_T_in 1789 (by decide +kernel) (by decide +kernel), ow_T_in 1791 (by decide +kernel) (by decide +kernel), ow_T_sel 59 (by decide +kernel) (by decide +kernel), ow_T_in 19 (by decide +kernel) (by decide +kernel), ow_T_in 1792 (by decide +kernel) (by decide +kernel), ⟨by decide +kernel, by decide +kernel, by decide +kernel⟩⟩
def M_failsAtMarket (m : Nat) (I : ow_I) : Bool × ow_I :=
  if M_wordOf m I = 0 then lt (M_failsAtNumber m 0 (nI 5) (nI 60) I) (fun (r1 : Bool × ow_I) => if r1.1 then (true, r1.2) else lt (M_failsAtNumber m 1 (nI 1) (r1.2 (m + 4) 0) r1.2) (fun (r2 : Bool × ow_I) => if r2.1 then (true, r2.2) else lt (M_failsAtNumber m 2 (nI 1) (nI 9) r2.2) (fun (r3 : Bool × ow_I) => if r3.1 then (true, r3.2) else lt (M_failsAtNumber m 3 (nI 1) (nI 50) r3.2) (fun (r4 : Bool × ow_I) => if r4.1 then (true, r4.2) else lt (M_failsAtNumber m 4 (nI 0) (nI 50) r4.2) (fun (r5 : Bool × ow_I) => if r5.1 then (true, r5.2) else lt (M_beginMarket m (r5.2 (m + 4) 0) (r5.2 (m + 4) 1) (r5.2 (m + 4) 2) (r5.2 (m + 4) 3) (r5.2 (m + 4) 4) r5.2) (fun (I6 : ow_I) => lt (M_failsAtNext m I6) (fun (r7 : Bool × ow_I) => (r7.1, r7.2)))))))) else lt (M_fails m (nI 1) I) (fun (r8 : Bool × ow_I) => (r8.1, r8.2))
set_option maxRecDepth 100000 in
set_option maxHeartbeats 400000 in
theorem cM_failsAtMarket {S : Nat → Option ow_Sh} {I : ow_I} {V : Nat → Nat → Value} {z : Nat} {m : Nat} (h_m : md_S S m) (hw : md_W m I) : ow_Cf yX11_failsAtMarket cX11_failsAtMarket 1 (some .boolean) 6 [.ref m] (S, I, V, z) (some (.int (bi ((M_failsAtMarket m I).1)))) (S, (M_failsAtMarket m I).2, V, z) := by
  refine ow_Cf.of rfl (Nat.le_of_ble_eq_true rfl) (fun X K E F hk => ?_)
  have E : ow_E X RX11 cX11_failsAtMarket 1 (ow_rm 6 0 0) := E
  refine or_lv [(0, .ref m)] rfl ?_
  dsimp only [M_failsAtMarket] at hk
  refine or_aload_n E rfl dX11_failsAtMarket_0 ?_
  refine or_cV0r (cM_wordOf  h_m hw) E lk_11_223 dX11_failsAtMarket_1 h_m.1 rfl rfl (by decide) (by decide) ⟨Nat.le_refl _, Nat.le_refl _⟩ (Nat.le_of_ble_eq_true rfl) ?_
  refine or_if_eq 13 E dX11_failsAtMarket_4 rfl (fun q4 => ?_) (fun q4 => ?_)
  · replace hk := ite_p (P := fun r : Bool × ow_I => K (some (.int (bi ((r).1)))) (S, (r).2, V, z)) q4 hk
    refine or_aload_n E rfl dX11_failsAtMarket_13 ?_
    refine or_iconst (v := nI 0) E rfl dX11_failsAtMarket_14 ?_
    refine or_iconst (v := nI 5) E rfl dX11_failsAtMarket_15 ?_
    refine or_bipush (v := nI 60) E rfl dX11_failsAtMarket_16 ?_
    refine or_cV3r (cM_failsAtNumber  h_m (by decide) hw.1) E lk_11_226 dX11_failsAtMarket_18 h_m.1 rfl rfl (by decide) (by decide) ⟨Nat.le_refl _, Nat.le_refl _⟩ (Nat.le_of_ble_eq_true rfl) ?_
    obtain ⟨r1, hr1⟩ : ∃ y_ : Bool × ow_I, y_ = M_failsAtNumber m 0 (nI 5) (nI 60) I := ⟨_, rfl⟩
    replace hk := lt_k (P := fun r : Bool × ow_I => K (some (.int (bi ((r).1)))) (S, (r).2, V, z)) hr1 hk
    refine or_nmZ hr1 ?_
    refine or_if_neZ 50 E dX11_failsAtMarket_21 rfl (fun q21 => ?_) (fun q21 => ?_)
    · replace hk := ite_p (P := fun r : Bool × ow_I => K (some (.int (bi ((r).1)))) (S, (r).2, V, z)) q21 hk
      refine or_iconst (v := nI 1) E rfl dX11_failsAtMarket_50 ?_
      try dsimp only at hk
      exact or_zret E F dX11_failsAtMarket_51 (Nat.le_refl _) (Nat.le_refl _) (bi_nar true) hk
    · replace hk := ite_n (P := fun r : Bool × ow_I => K (some (.int (bi ((r).1)))) (S, (r).2, V, z)) (bz_neg q21) hk
      refine or_aload_n E rfl dX11_failsAtMarket_24 ?_
      refine or_iconst (v := nI 1) E rfl dX11_failsAtMarket_25 ?_
      refine or_iconst (v := nI 1) E rfl dX11_failsAtMarket_26 ?_
      refine or_aload_n E rfl dX11_failsAtMarket_27 ?_
      refine ot_getC E fl_11_25 dX11_failsAtMarket_28 h_m.1 rfl ?_
      refine or_iconst (v := nI 0) E rfl dX11_failsAtMarket_31 ?_
      refine ot_iald (j := 0) E dX11_failsAtMarket_32 h_m.2.2.2.2.1 rfl rfl (by omega) (Nat.le_of_ble_eq_true rfl) ?_
      refine or_cV3r (cM_failsAtNumber  h_m (by subst hr1; decide) (by subst hr1; exact (W_num hw.1).1)) E lk_11_226 dX11_failsAtMarket_33 h_m.1 rfl rfl (by decide) (by decide) ⟨Nat.le_refl _, Nat.le_refl _⟩ (Nat.le_of_ble_eq_true rfl) ?_
      obtain ⟨r2, hr2⟩ : ∃ y_ : Bool × ow_I, y_ = M_failsAtNumber m 1 (nI 1) (r1.2 (m + 4) 0) r1.2 := ⟨_, rfl⟩
      replace hk := lt_k (P := fun r : Bool × ow_I => K (some (.int (bi ((r).1)))) (S, (r).2, V, z)) hr2 hk
      refine or_nmZ hr2 ?_
      refine or_if_neZ 50 E dX11_failsAtMarket_36 rfl (fun q36 => ?_) (fun q36 => ?_)
      · replace hk := ite_p (P := fun r : Bool × ow_I => K (some (.int (bi ((r).1)))) (S, (r).2, V, z)) q36 hk
        refine or_iconst (v := nI 1) E rfl dX11_failsAtMarket_50 ?_
        try dsimp only at hk
        exact or_zret E F dX11_failsAtMarket_51 (Nat.le_refl _) (Nat.le_refl _) (bi_nar true) hk
      · replace hk := ite_n (P := fun r : Bool × ow_I => K (some (.int (bi ((r).1)))) (S, (r).2, V, z)) (bz_neg q36) hk
        refine or_aload_n E rfl dX11_failsAtMarket_39 ?_
        refine or_iconst (v := nI 2) E rfl dX11_failsAtMarket_40 ?_
        refine or_iconst (v := nI 1) E rfl dX11_failsAtMarket_41 ?_
        refine or_bipush (v := nI 9) E rfl dX11_failsAtMarket_42 ?_
        refine or_cV3r (cM_failsAtNumber  h_m (by subst hr2 hr1; decide) (by subst hr2 hr1; exact (W_num (W_num hw.1).1).1)) E lk_11_226 dX11_failsAtMarket_44 h_m.1 rfl rfl (by decide) (by decide) ⟨Nat.le_refl _, Nat.le_refl _⟩ (Nat.le_of_ble_eq_true rfl) ?_
        obtain ⟨r3, hr3⟩ : ∃ y_ : Bool × ow_I, y_ = M_failsAtNumber m 2 (nI 1) (nI 9) r2.2 := ⟨_, rfl⟩
        replace hk := lt_k (P := fun r : Bool × ow_I => K (some (.int (bi ((r).1)))) (S, (r).2, V, z)) hr3 hk
        refine or_nmZ hr3 ?_
        refine or_if_eqZ 52 E dX11_failsAtMarket_47 rfl (fun q47 => ?_) (fun q47 => ?_)
        · replace hk := ite_n (P := fun r : Bool × ow_I => K (some (.int (bi ((r).1)))) (S, (r).2, V, z)) (bz_neg q47) hk
          refine or_aload_n E rfl dX11_failsAtMarket_52 ?_
          refine or_iconst (v := nI 3) E rfl dX11_failsAtMarket_53 ?_
          refine or_iconst (v := nI 1) E rfl dX11_failsAtMarket_54 ?_
          refine or_bipush (v := nI 50) E rfl dX11_failsAtMarket_55 ?_
          refine or_cV3r (cM_failsAtNumber  h_m (by subst hr3 hr2 hr1; decide) (by subst hr3 hr2 hr1; exact (W_num (W_num (W_num hw.1).1).1).1)) E lk_11_226 dX11_failsAtMarket_57 h_m.1 rfl rfl (by decide) (by decide) ⟨Nat.le_refl _, Nat.le_refl _⟩ (Nat.le_of_ble_eq_true rfl) ?_
          obtain ⟨r4, hr4⟩ : ∃ y_ : Bool × ow_I, y_ = M_failsAtNumber m 3 (nI 1) (nI 50) r3.2 := ⟨_, rfl⟩
          replace hk := lt_k (P := fun r : Bool × ow_I => K (some (.int (bi ((r).1)))) (S, (r).2, V, z)) hr4 hk
          refine or_nmZ hr4 ?_
          refine or_if_neZ 74 E dX11_failsAtMarket_60 rfl (fun q60 => ?_) (fun q60 => ?_)
          · replace hk := ite_p (P := fun r : Bool × ow_I => K (some (.int (bi ((r).1)))) (S, (r).2, V, z)) q60 hk
            refine or_iconst (v := nI 1) E rfl dX11_failsAtMarket_74 ?_
            try dsimp only at hk
            exact or_zret E F dX11_failsAtMarket_75 (Nat.le_refl _) (Nat.le_refl _) (bi_nar true) hk
          · replace hk := ite_n (P := fun r : Bool × ow_I => K (some (.int (bi ((r).1)))) (S, (r).2, V, z)) (bz_neg q60) hk
            refine or_aload_n E rfl dX11_failsAtMarket_63 ?_
            refine or_iconst (v := nI 4) E rfl dX11_failsAtMarket_64 ?_
            refine or_iconst (v := nI 0) E rfl dX11_failsAtMarket_65 ?_
            refine or_bipush (v := nI 50) E rfl dX11_failsAtMarket_66 ?_
            refine or_cV3r (cM_failsAtNumber  h_m (by subst hr4 hr3 hr2 hr1; decide) (by subst hr4 hr3 hr2 hr1; exact (W_num (W_num (W_num (W_num hw.1).1).1).1).1)) E lk_11_226 dX11_failsAtMarket_68 h_m.1 rfl rfl (by decide) (by decide) ⟨Nat.le_refl _, Nat.le_refl _⟩ (Nat.le_of_ble_eq_true rfl) ?_
            obtain ⟨r5, hr5⟩ : ∃ y_ : Bool × ow_I, y_ = M_failsAtNumber m 4 (nI 0) (nI 50) r4.2 := ⟨_, rfl⟩
            replace hk := lt_k (P := fun r : Bool × ow_I => K (some (.int (bi ((r).1)))) (S, (r).2, V, z)) hr5 hk
            refine or_nmZ hr5 ?_
            refine or_if_eqZ 76 E dX11_failsAtMarket_71 rfl (fun q71 => ?_) (fun q71 => ?_)
            · replace hk := ite_n (P := fun r : Bool × ow_I => K (some (.int (bi ((r).1)))) (S, (r).2, V, z)) (bz_neg q71) hk
              refine or_aload_n E rfl dX11_failsAtMarket_76 ?_
              refine or_aload_n E rfl dX11_failsAtMarket_77 ?_
              refine ot_getC E fl_11_25 dX11_failsAtMarket_78 h_m.1 rfl ?_
              refine or_iconst (v := nI 0) E rfl dX11_failsAtMarket_81 ?_
              refine ot_iald (j := 0) E dX11_failsAtMarket_82 h_m.2.2.2.2.1 rfl rfl (by omega) (Nat.le_of_ble_eq_true rfl) ?_
              refine or_aload_n E rfl dX11_failsAtMarket_83 ?_
              refine ot_getC E fl_11_25 dX11_failsAtMarket_84 h_m.1 rfl ?_
              refine or_iconst (v := nI 1) E rfl dX11_failsAtMarket_87 ?_
              refine ot_iald (j := 1) E dX11_failsAtMarket_88 h_m.2.2.2.2.1 rfl rfl (by omega) (Nat.le_of_ble_eq_true rfl) ?_
              refine or_aload_n E rfl dX11_failsAtMarket_89 ?_
              refine ot_getC E fl_11_25 dX11_failsAtMarket_90 h_m.1 rfl ?_
              refine or_iconst (v := nI 2) E rfl dX11_failsAtMarket_93 ?_
              refine ot_iald (j := 2) E dX11_failsAtMarket_94 h_m.2.2.2.2.1 rfl rfl (by omega) (Nat.le_of_ble_eq_true rfl) ?_
              refine or_aload_n E rfl dX11_failsAtMarket_95 ?_
              refine ot_getC E fl_11_25 dX11_failsAtMarket_96 h_m.1 rfl ?_
              refine or_iconst (v := nI 3) E rfl dX11_failsAtMarket_99 ?_
              refine ot_iald (j := 3) E dX11_failsAtMarket_100 h_m.2.2.2.2.1 rfl rfl (by omega) (Nat.le_of_ble_eq_true rfl) ?_
              refine or_aload_n E rfl dX11_failsAtMarket_101 ?_
              refine ot_getC E fl_11_25 dX11_failsAtMarket_102 h_m.1 rfl ?_
              refine or_iconst (v := nI 4) E rfl dX11_failsAtMarket_105 ?_
              refine ot_iald (j := 4) E dX11_failsAtMarket_106 h_m.2.2.2.2.1 rfl rfl (by omega) (Nat.le_of_ble_eq_true rfl) ?_
              refine or_cV5v (cM_beginMarket  h_m ) E lk_11_38 dX11_failsAtMarket_107 h_m.1 rfl rfl (by decide) (by decide) ⟨Nat.le_refl _, Nat.le_refl _⟩ (Nat.le_of_ble_eq_true rfl) ?_
              obtain ⟨I6, hI6⟩ : ∃ y_ : ow_I, y_ = M_beginMarket m (r5.2 (m + 4) 0) (r5.2 (m + 4) 1) (r5.2 (m + 4) 2) (r5.2 (m + 4) 3) (r5.2 (m + 4) 4) r5.2 := ⟨_, rfl⟩
              replace hk := lt_k (P := fun r : Bool × ow_I => K (some (.int (bi ((r).1)))) (S, (r).2, V, z)) hI6 hk
              refine or_nmI hI6 ?_
              refine or_aload_n E rfl dX11_failsAtMarket_110 ?_
              refine or_cV0r (cM_failsAtNext  h_m (by subst hI6 hr5 hr4 hr3 hr2 hr1; exact (mdT_row (W_num (W_num (W_num (W_num (W_num hw.1).1).1).1).1).1 (rr_begin (by omega))))) E lk_11_229 dX11_failsAtMarket_111 h_m.1 rfl rfl (by decide) (by decide) ⟨Nat.le_refl _, Nat.le_refl _⟩ (Nat.le_of_ble_eq_true rfl) ?_
              obtain ⟨r7, hr7⟩ : ∃ y_ : Bool × ow_I, y_ = M_failsAtNext m I6 := ⟨_, rfl⟩
              replace hk := lt_k (P := fun r : Bool × ow_I => K (some (.int (bi ((r).1)))) (S, (r).2, V, z)) hr7 hk
              refine or_nmZ hr7 ?_
              try dsimp only at hk
              exact or_zret E F dX11_failsAtMarket_114 (Nat.le_refl _) (Nat.le_refl _) (bi_nar _) hk
            · replace hk := ite_p (P := fun r : Bool × ow_I => K (some (.int (bi ((r).1)))) (S, (r).2, V, z)) q71 hk
              refine or_iconst (v := nI 1) E rfl dX11_failsAtMarket_74 ?_
              try dsimp only at hk
              exact or_zret E F dX11_failsAtMarket_75 (Nat.le_refl _) (Nat.le_refl _) (bi_nar true) hk
        · replace hk := ite_p (P := fun r : Bool × ow_I => K (some (.int (bi ((r).1)))) (S, (r).2, V, z)) q47 hk
          refine or_iconst (v := nI 1) E rfl dX11_failsAtMarket_50 ?_
          try dsimp only at hk
          exact or_zret E F dX11_failsAtMarket_51 (Nat.le_refl _) (Nat.le_refl _) (bi_nar true) hk
  · replace hk := ite_n (P := fun r : Bool × ow_I => K (some (.int (bi ((r).1)))) (S, (r).2, V, z)) q4 hk
    refine or_aload_n E rfl dX11_failsAtMarket_7 ?_
    refine or_iconst (v := nI 1) E rfl dX11_failsAtMarket_8 ?_
    refine or_cV1r (cM_fails  h_m ) E lk_11_214 dX11_failsAtMarket_9 h_m.1 rfl rfl (by decide) (by decide) ⟨Nat.le_refl _, Nat.le_refl _⟩ (Nat.le_of_ble_eq_true rfl) ?_
    obtain ⟨r8, hr8⟩ : ∃ y_ : Bool × ow_I, y_ = M_fails m (nI 1) I := ⟨_, rfl⟩
    replace hk := lt_k (P := fun r : Bool × ow_I => K (some (.int (bi ((r).1)))) (S, (r).2, V, z)) hr8 hk
    refine or_nmZ hr8 ?_
    try dsimp only at hk
    exact or_zret E F dX11_failsAtMarket_12 (Nat.le_refl _) (Nat.le_refl _) (bi_nar _) hk
def M_failsAtBuyer (m : Nat) (I : ow_I) : Bool × ow_I :=
  if M_wordOf m I = nI 1 then if I (m + 1) 6 = nI 6 then lt (M_fails m (nI 3) I) (fun (r6 : Bool × ow_I) => (r6.1, r6.2)) else lt (M_failsAtNumber m 0 (nI 0) (nI 9999) I) (fun (r1 : Bool × ow_I) => if r1.1 then (true, r1.2) else lt (M_failsAtNumber m 1 (nI 0) (nI 4) r1.2) (fun (r2 : Bool × ow_I) => if r2.1 then (true, r2.2) else lt (M_failsAtNumber m 2 (nI 1) (nI 999) r2.2) (fun (r3 : Bool × ow_I) => if r3.1 then (true, r3.2) else lt (M_addBuyer m (r3.2 (m + 4) 0) (r3.2 (m + 4) 1) (r3.2 (m + 4) 2) r3.2) (fun (I4 : ow_I) => lt (M_failsAtNext m I4) (fun (r5 : Bool × ow_I) => (r5.1, r5.2)))))) else lt (M_fails m (nI 1) I) (fun (r7 : Bool × ow_I) => (r7.1, r7.2))
set_option maxRecDepth 100000 in
set_option maxHeartbeats 400000 in
theorem cM_failsAtBuyer {S : Nat → Option ow_Sh} {I : ow_I} {V : Nat → Nat → Value} {z : Nat} {m : Nat} (h_m : md_S S m) (hw : md_W m I) (h6 : 0 ≤ I (m + 1) 6) (h6b : tn (I (m + 1) 6) ≤ 6) : ow_Cf yX11_failsAtBuyer cX11_failsAtBuyer 1 (some .boolean) 6 [.ref m] (S, I, V, z) (some (.int (bi ((M_failsAtBuyer m I).1)))) (S, (M_failsAtBuyer m I).2, V, z) := by
  refine ow_Cf.of rfl (Nat.le_of_ble_eq_true rfl) (fun X K E F hk => ?_)
  have E : ow_E X RX11 cX11_failsAtBuyer 1 (ow_rm 6 0 0) := E
  refine or_lv [(0, .ref m)] rfl ?_
  dsimp only [M_failsAtBuyer] at hk
  refine or_aload_n E rfl dX11_failsAtBuyer_0 ?_
  refine or_cV0r (cM_wordOf  h_m hw) E lk_11_223 dX11_failsAtBuyer_1 h_m.1 rfl rfl (by decide) (by decide) ⟨Nat.le_refl _, Nat.le_refl _⟩ (Nat.le_of_ble_eq_true rfl) ?_
  refine or_iconst (v := nI 1) E rfl dX11_failsAtBuyer_4 ?_
  refine or_icmp_eq 14 E dX11_failsAtBuyer_5 rfl (fun q5 => ?_) (fun q5 => ?_)
  · replace hk := ite_p (P := fun r : Bool × ow_I => K (some (.int (bi ((r).1)))) (S, (r).2, V, z)) q5 hk
    refine or_aload_n E rfl dX11_failsAtBuyer_14 ?_
    refine ot_getC E fl_11_7 dX11_failsAtBuyer_15 h_m.1 rfl ?_
    refine or_bipush (v := nI 6) E rfl dX11_failsAtBuyer_18 ?_
    refine ot_iald (j := 6) E dX11_failsAtBuyer_20 h_m.2.1 rfl rfl (by omega) (Nat.le_of_ble_eq_true rfl) ?_
    refine or_bipush (v := nI 6) E rfl dX11_failsAtBuyer_21 ?_
    refine or_icmp_ne 32 E dX11_failsAtBuyer_23 rfl (fun q23 => ?_) (fun q23 => ?_)
    · replace hk := ite_n (P := fun r : Bool × ow_I => K (some (.int (bi ((r).1)))) (S, (r).2, V, z)) q23 hk
      refine or_aload_n E rfl dX11_failsAtBuyer_32 ?_
      refine or_iconst (v := nI 0) E rfl dX11_failsAtBuyer_33 ?_
      refine or_iconst (v := nI 0) E rfl dX11_failsAtBuyer_34 ?_
      refine or_sipush (v := nI 9999) E rfl dX11_failsAtBuyer_35 ?_
      refine or_cV3r (cM_failsAtNumber  h_m (by decide) hw.1) E lk_11_226 dX11_failsAtBuyer_38 h_m.1 rfl rfl (by decide) (by decide) ⟨Nat.le_refl _, Nat.le_refl _⟩ (Nat.le_of_ble_eq_true rfl) ?_
      obtain ⟨r1, hr1⟩ : ∃ y_ : Bool × ow_I, y_ = M_failsAtNumber m 0 (nI 0) (nI 9999) I := ⟨_, rfl⟩
      replace hk := lt_k (P := fun r : Bool × ow_I => K (some (.int (bi ((r).1)))) (S, (r).2, V, z)) hr1 hk
      refine or_nmZ hr1 ?_
      refine or_if_neZ 66 E dX11_failsAtBuyer_41 rfl (fun q41 => ?_) (fun q41 => ?_)
      · replace hk := ite_p (P := fun r : Bool × ow_I => K (some (.int (bi ((r).1)))) (S, (r).2, V, z)) q41 hk
        refine or_iconst (v := nI 1) E rfl dX11_failsAtBuyer_66 ?_
        try dsimp only at hk
        exact or_zret E F dX11_failsAtBuyer_67 (Nat.le_refl _) (Nat.le_refl _) (bi_nar true) hk
      · replace hk := ite_n (P := fun r : Bool × ow_I => K (some (.int (bi ((r).1)))) (S, (r).2, V, z)) (bz_neg q41) hk
        refine or_aload_n E rfl dX11_failsAtBuyer_44 ?_
        refine or_iconst (v := nI 1) E rfl dX11_failsAtBuyer_45 ?_
        refine or_iconst (v := nI 0) E rfl dX11_failsAtBuyer_46 ?_
        refine or_iconst (v := nI 4) E rfl dX11_failsAtBuyer_47 ?_
        refine or_cV3r (cM_failsAtNumber  h_m (by subst hr1; decide) (by subst hr1; exact (W_num hw.1).1)) E lk_11_226 dX11_failsAtBuyer_48 h_m.1 rfl rfl (by decide) (by decide) ⟨Nat.le_refl _, Nat.le_refl _⟩ (Nat.le_of_ble_eq_true rfl) ?_
        obtain ⟨r2, hr2⟩ : ∃ y_ : Bool × ow_I, y_ = M_failsAtNumber m 1 (nI 0) (nI 4) r1.2 := ⟨_, rfl⟩
        replace hk := lt_k (P := fun r : Bool × ow_I => K (some (.int (bi ((r).1)))) (S, (r).2, V, z)) hr2 hk
        refine or_nmZ hr2 ?_
        refine or_if_neZ 66 E dX11_failsAtBuyer_51 rfl (fun q51 => ?_) (fun q51 => ?_)
        · replace hk := ite_p (P := fun r : Bool × ow_I => K (some (.int (bi ((r).1)))) (S, (r).2, V, z)) q51 hk
          refine or_iconst (v := nI 1) E rfl dX11_failsAtBuyer_66 ?_
          try dsimp only at hk
          exact or_zret E F dX11_failsAtBuyer_67 (Nat.le_refl _) (Nat.le_refl _) (bi_nar true) hk
        · replace hk := ite_n (P := fun r : Bool × ow_I => K (some (.int (bi ((r).1)))) (S, (r).2, V, z)) (bz_neg q51) hk
          refine or_aload_n E rfl dX11_failsAtBuyer_54 ?_
          refine or_iconst (v := nI 2) E rfl dX11_failsAtBuyer_55 ?_
          refine or_iconst (v := nI 1) E rfl dX11_failsAtBuyer_56 ?_
          refine or_sipush (v := nI 999) E rfl dX11_failsAtBuyer_57 ?_
          refine or_cV3r (cM_failsAtNumber  h_m (by subst hr2 hr1; decide) (by subst hr2 hr1; exact (W_num (W_num hw.1).1).1)) E lk_11_226 dX11_failsAtBuyer_60 h_m.1 rfl rfl (by decide) (by decide) ⟨Nat.le_refl _, Nat.le_refl _⟩ (Nat.le_of_ble_eq_true rfl) ?_
          obtain ⟨r3, hr3⟩ : ∃ y_ : Bool × ow_I, y_ = M_failsAtNumber m 2 (nI 1) (nI 999) r2.2 := ⟨_, rfl⟩
          replace hk := lt_k (P := fun r : Bool × ow_I => K (some (.int (bi ((r).1)))) (S, (r).2, V, z)) hr3 hk
          refine or_nmZ hr3 ?_
          refine or_if_eqZ 68 E dX11_failsAtBuyer_63 rfl (fun q63 => ?_) (fun q63 => ?_)
          · replace hk := ite_n (P := fun r : Bool × ow_I => K (some (.int (bi ((r).1)))) (S, (r).2, V, z)) (bz_neg q63) hk
            refine or_aload_n E rfl dX11_failsAtBuyer_68 ?_
            refine or_aload_n E rfl dX11_failsAtBuyer_69 ?_
            refine ot_getC E fl_11_25 dX11_failsAtBuyer_70 h_m.1 rfl ?_
            refine or_iconst (v := nI 0) E rfl dX11_failsAtBuyer_73 ?_
            refine ot_iald (j := 0) E dX11_failsAtBuyer_74 h_m.2.2.2.2.1 rfl rfl (by omega) (Nat.le_of_ble_eq_true rfl) ?_
            refine or_aload_n E rfl dX11_failsAtBuyer_75 ?_
            refine ot_getC E fl_11_25 dX11_failsAtBuyer_76 h_m.1 rfl ?_
            refine or_iconst (v := nI 1) E rfl dX11_failsAtBuyer_79 ?_
            refine ot_iald (j := 1) E dX11_failsAtBuyer_80 h_m.2.2.2.2.1 rfl rfl (by omega) (Nat.le_of_ble_eq_true rfl) ?_
            refine or_aload_n E rfl dX11_failsAtBuyer_81 ?_
            refine ot_getC E fl_11_25 dX11_failsAtBuyer_82 h_m.1 rfl ?_
            refine or_iconst (v := nI 2) E rfl dX11_failsAtBuyer_85 ?_
            refine ot_iald (j := 2) E dX11_failsAtBuyer_86 h_m.2.2.2.2.1 rfl rfl (by omega) (Nat.le_of_ble_eq_true rfl) ?_
            refine or_cV3v (cM_addBuyer  h_m (by subst hr3 hr2 hr1; rw [rr_num (by omega) (by omega), rr_num (by omega) (by omega), rr_num (by omega) (by omega)]; exact h6) (by subst hr3 hr2 hr1; rw [rr_num (by omega) (by omega), rr_num (by omega) (by omega), rr_num (by omega) (by omega)]; have : tn (I (m + 1) 6) ≠ 6 := fun z => q23 (by rw [← nI_tn h6, z]); omega)) E lk_11_42 dX11_failsAtBuyer_87 h_m.1 rfl rfl (by decide) (by decide) ⟨Nat.le_refl _, Nat.le_refl _⟩ (Nat.le_of_ble_eq_true rfl) ?_
            obtain ⟨I4, hI4⟩ : ∃ y_ : ow_I, y_ = M_addBuyer m (r3.2 (m + 4) 0) (r3.2 (m + 4) 1) (r3.2 (m + 4) 2) r3.2 := ⟨_, rfl⟩
            replace hk := lt_k (P := fun r : Bool × ow_I => K (some (.int (bi ((r).1)))) (S, (r).2, V, z)) hI4 hk
            refine or_nmI hI4 ?_
            refine or_aload_n E rfl dX11_failsAtBuyer_90 ?_
            refine or_cV0r (cM_failsAtNext  h_m (by subst hI4 hr3 hr2 hr1; exact (mdT_row (W_num (W_num (W_num hw.1).1).1).1 (rr_addBuyer (by omega))))) E lk_11_229 dX11_failsAtBuyer_91 h_m.1 rfl rfl (by decide) (by decide) ⟨Nat.le_refl _, Nat.le_refl _⟩ (Nat.le_of_ble_eq_true rfl) ?_
            obtain ⟨r5, hr5⟩ : ∃ y_ : Bool × ow_I, y_ = M_failsAtNext m I4 := ⟨_, rfl⟩
            replace hk := lt_k (P := fun r : Bool × ow_I => K (some (.int (bi ((r).1)))) (S, (r).2, V, z)) hr5 hk
            refine or_nmZ hr5 ?_
            try dsimp only at hk
            exact or_zret E F dX11_failsAtBuyer_94 (Nat.le_refl _) (Nat.le_refl _) (bi_nar _) hk
          · replace hk := ite_p (P := fun r : Bool × ow_I => K (some (.int (bi ((r).1)))) (S, (r).2, V, z)) q63 hk
            refine or_iconst (v := nI 1) E rfl dX11_failsAtBuyer_66 ?_
            try dsimp only at hk
            exact or_zret E F dX11_failsAtBuyer_67 (Nat.le_refl _) (Nat.le_refl _) (bi_nar true) hk
    · replace hk := ite_p (P := fun r : Bool × ow_I => K (some (.int (bi ((r).1)))) (S, (r).2, V, z)) q23 hk
      refine or_aload_n E rfl dX11_failsAtBuyer_26 ?_
      refine or_iconst (v := nI 3) E rfl dX11_failsAtBuyer_27 ?_
      refine or_cV1r (cM_fails  h_m ) E lk_11_214 dX11_failsAtBuyer_28 h_m.1 rfl rfl (by decide) (by decide) ⟨Nat.le_refl _, Nat.le_refl _⟩ (Nat.le_of_ble_eq_true rfl) ?_
      obtain ⟨r6, hr6⟩ : ∃ y_ : Bool × ow_I, y_ = M_fails m (nI 3) I := ⟨_, rfl⟩
      replace hk := lt_k (P := fun r : Bool × ow_I => K (some (.int (bi ((r).1)))) (S, (r).2, V, z)) hr6 hk
      refine or_nmZ hr6 ?_
      try dsimp only at hk
      exact or_zret E F dX11_failsAtBuyer_31 (Nat.le_refl _) (Nat.le_refl _) (bi_nar _) hk
  · replace hk := ite_n (P := fun r : Bool × ow_I => K (some (.int (bi ((r).1)))) (S, (r).2, V, z)) q5 hk
    refine or_aload_n E rfl dX11_failsAtBuyer_8 ?_
    refine or_iconst (v := nI 1) E rfl dX11_failsAtBuyer_9 ?_
    refine or_cV1r (cM_fails  h_m ) E lk_11_214 dX11_failsAtBuyer_10 h_m.1 rfl rfl (by decide) (by decide) ⟨Nat.le_refl _, Nat.le_refl _⟩ (Nat.le_of_ble_eq_true rfl) ?_
    obtain ⟨r7, hr7⟩ : ∃ y_ : Bool × ow_I, y_ = M_fails m (nI 1) I := ⟨_, rfl⟩
    replace hk := lt_k (P := fun r : Bool × ow_I => K (some (.int (bi ((r).1)))) (S, (r).2, V, z)) hr7 hk
    refine or_nmZ hr7 ?_
    try dsimp only at hk
    exact or_zret E F dX11_failsAtBuyer_13 (Nat.le_refl _) (Nat.le_refl _) (bi_nar _) hk
def M_failsAtBarrel_L23 (m : Nat) : Nat → ow_I → Bool × ow_I
  | 0, I => (default, I)
  | n + 1, I => if tn (I m 13) = 1 then lt (M_failsAtThis m (tn (I m 13)) (nI 10) (nI 150) I) (fun (r4 : Bool × ow_I) => if r4.1 then (true, r4.2) else if tn (I m 13) ≤ 9 then lt (ow_u r4.2 m 13 (r4.2 m 13 + (nI 1))) (fun (I5 : ow_I) => lt (M_readToken m I5) (fun (I6 : ow_I) => M_failsAtBarrel_L23 m n I6 )) else lt (M_fails m (nI 3) r4.2) (fun (r7 : Bool × ow_I) => (r7.1, r7.2))) else if I m 9 = nI 2 then lt (M_failsAtThis m (tn (I m 13)) (nI 10) (nI 150) I) (fun (r8 : Bool × ow_I) => if r8.1 then (true, r8.2) else if tn (I m 13) ≤ 9 then lt (ow_u r8.2 m 13 (r8.2 m 13 + (nI 1))) (fun (I9 : ow_I) => lt (M_readToken m I9) (fun (I10 : ow_I) => M_failsAtBarrel_L23 m n I10 )) else lt (M_fails m (nI 3) r8.2) (fun (r11 : Bool × ow_I) => (r11.1, r11.2))) else (false, I)
def M_failsAtBarrel (m : Nat) (I : ow_I) : Bool × ow_I :=
  lt (M_failsAtNumber m 0 (nI 1) (nI 999) I) (fun (r1 : Bool × ow_I) => if r1.1 then (true, r1.2) else lt (ow_u r1.2 m 13 (nI 1)) (fun (I2 : ow_I) => lt (M_readToken m I2) (fun (I3 : ow_I) => M_failsAtBarrel_L23 m 11 I3 )))
set_option maxRecDepth 100000 in
set_option maxHeartbeats 400000 in
theorem cM_failsAtBarrel {S : Nat → Option ow_Sh} {I : ow_I} {V : Nat → Nat → Value} {z : Nat} {m : Nat} (h_m : md_S S m) (ht : md_T m I) : ow_Cf yX11_failsAtBarrel cX11_failsAtBarrel 1 (some .boolean) 5 [.ref m] (S, I, V, z) (some (.int (bi ((M_failsAtBarrel m I).1)))) (S, (M_failsAtBarrel m I).2, V, z) := by
  refine ow_Cf.of rfl (Nat.le_of_ble_eq_true rfl) (fun X K E F hk => ?_)
  have E : ow_E X RX11 cX11_failsAtBarrel 1 (ow_rm 5 0 0) := E
  refine or_lv [(0, .ref m)] rfl ?_
  have L23 : ∀ (n : Nat) (I : ow_I)  (hw : md_W m I) (hn : 0 ≤ I m 13) (hn1 : 1 ≤ tn (I m 13)) (hn2 : tn (I m 13) ≤ 10) (hm : 10 - tn (I m 13) < n) (hk : K (some (.int (bi ((M_failsAtBarrel_L23 m n I ).1)))) (S, (M_failsAtBarrel_L23 m n I ).2, V, z)), ow_W X 0 0 (S, I, V, z) 23 [(0, .ref m)] [] := by
    intro n
    induction n with
    | zero => intro I  hw hn hn1 hn2 hm; omega
    | succ n ih =>
      intro I  hw hn hn1 hn2 hm hk
      dsimp only [M_failsAtBarrel_L23] at hk
      refine or_aload_n E rfl dX11_failsAtBarrel_23 ?_
      refine ot_getI E fl_11_232 dX11_failsAtBarrel_24 h_m.1 rfl ?_
      refine or_top (nI_tn hn).symm ?_
      refine or_iconst (v := nI 1) E rfl dX11_failsAtBarrel_27 ?_
      refine or_icmp_eqN 39 E dX11_failsAtBarrel_28 rfl (by omega) (by omega) (fun q28 => ?_) (fun q28 => ?_)
      · replace hk := ite_p (P := fun r : Bool × ow_I => K (some (.int (bi ((r).1)))) (S, (r).2, V, z)) q28 hk
        refine or_aload_n E rfl dX11_failsAtBarrel_39 ?_
        refine or_aload_n E rfl dX11_failsAtBarrel_40 ?_
        refine ot_getI E fl_11_232 dX11_failsAtBarrel_41 h_m.1 rfl ?_
        refine or_top (nI_tn hn).symm ?_
        refine or_bipush (v := nI 10) E rfl dX11_failsAtBarrel_44 ?_
        refine or_sipush (v := nI 150) E rfl dX11_failsAtBarrel_46 ?_
        refine or_cV3r (cM_failsAtThis  h_m (by omega)) E lk_11_217 dX11_failsAtBarrel_49 h_m.1 rfl rfl (by decide) (by decide) ⟨Nat.le_refl _, Nat.le_refl _⟩ (Nat.le_of_ble_eq_true rfl) ?_
        obtain ⟨r4, hr4⟩ : ∃ y_ : Bool × ow_I, y_ = M_failsAtThis m (tn (I m 13)) (nI 10) (nI 150) I := ⟨_, rfl⟩
        replace hk := lt_k (P := fun r : Bool × ow_I => K (some (.int (bi ((r).1)))) (S, (r).2, V, z)) hr4 hk
        refine or_nmZ hr4 ?_
        refine or_if_eqZ 57 E dX11_failsAtBarrel_52 rfl (fun q52 => ?_) (fun q52 => ?_)
        · replace hk := ite_n (P := fun r : Bool × ow_I => K (some (.int (bi ((r).1)))) (S, (r).2, V, z)) (bz_neg q52) hk
          refine or_aload_n E rfl dX11_failsAtBarrel_57 ?_
          refine ot_getI E fl_11_232 dX11_failsAtBarrel_58 h_m.1 rfl ?_
          refine or_top (y := nI (tn (I m 13))) (by subst hr4; simp (disch := omega) only [fr_this, nI_tn hn]) ?_
          refine or_bipush (v := nI 9) E rfl dX11_failsAtBarrel_61 ?_
          refine or_icmp_leN 72 E dX11_failsAtBarrel_63 rfl (by omega) (by omega) (fun q63 => ?_) (fun q63 => ?_)
          · replace hk := ite_p (P := fun r : Bool × ow_I => K (some (.int (bi ((r).1)))) (S, (r).2, V, z)) q63 hk
            refine or_aload_n E rfl dX11_failsAtBarrel_72 ?_
            refine or_dup E rfl dX11_failsAtBarrel_73 ?_
            refine ot_getI E fl_11_232 dX11_failsAtBarrel_74 h_m.1 rfl ?_
            refine or_iconst (v := nI 1) E rfl dX11_failsAtBarrel_77 ?_
            refine or_iadd E dX11_failsAtBarrel_78 ?_
            refine ot_putI E fl_11_232 fw_11_13 dX11_failsAtBarrel_79 h_m.1 rfl ?_
            obtain ⟨I5, hI5⟩ : ∃ y_ : ow_I, y_ = ow_u r4.2 m 13 (r4.2 m 13 + (nI 1)) := ⟨_, rfl⟩
            replace hk := lt_k (P := fun r : Bool × ow_I => K (some (.int (bi ((r).1)))) (S, (r).2, V, z)) hI5 hk
            refine or_nmI hI5 ?_
            refine or_aload_n E rfl dX11_failsAtBarrel_82 ?_
            refine or_cV0v (cM_readToken  h_m (by subst hI5 hr4; exact (mdW_o (W_this hw) _ (by decide) (by decide) (by decide)).1)) E lk_11_211 dX11_failsAtBarrel_83 h_m.1 rfl rfl (by decide) (by decide) ⟨Nat.le_refl _, Nat.le_refl _⟩ (Nat.le_of_ble_eq_true rfl) ?_
            obtain ⟨I6, hI6⟩ : ∃ y_ : ow_I, y_ = M_readToken m I5 := ⟨_, rfl⟩
            replace hk := lt_k (P := fun r : Bool × ow_I => K (some (.int (bi ((r).1)))) (S, (r).2, V, z)) hI6 hk
            refine or_nmI hI6 ?_
            refine or_goto 23 E dX11_failsAtBarrel_86 rfl ?_
            refine or_lv _ ?_ (ih _  (by subst hI6 hI5 hr4; exact (W_readToken (mdW_o (W_this hw) _ (by decide) (by decide) (by decide)).1)) (by subst hI6 hI5 hr4; simp (disch := omega) only [fr_readToken, ow_u_s, fr_this]; exact (tn_inc hn (by omega)).1) (by subst hI6 hI5 hr4; simp (disch := omega) only [fr_readToken, ow_u_s, fr_this]; rw [(tn_inc hn (by omega)).2]; omega) (by subst hI6 hI5 hr4; simp (disch := omega) only [fr_readToken, ow_u_s, fr_this]; rw [(tn_inc hn (by omega)).2]; omega) (by subst hI6 hI5 hr4; simp (disch := omega) only [fr_readToken, ow_u_s, fr_this]; rw [(tn_inc hn (by omega)).2]; omega) hk)
            rfl
          · replace hk := ite_n (P := fun r : Bool × ow_I => K (some (.int (bi ((r).1)))) (S, (r).2, V, z)) q63 hk
            refine or_aload_n E rfl dX11_failsAtBarrel_66 ?_
            refine or_iconst (v := nI 3) E rfl dX11_failsAtBarrel_67 ?_
            refine or_cV1r (cM_fails  h_m ) E lk_11_214 dX11_failsAtBarrel_68 h_m.1 rfl rfl (by decide) (by decide) ⟨Nat.le_refl _, Nat.le_refl _⟩ (Nat.le_of_ble_eq_true rfl) ?_
            obtain ⟨r7, hr7⟩ : ∃ y_ : Bool × ow_I, y_ = M_fails m (nI 3) r4.2 := ⟨_, rfl⟩
            replace hk := lt_k (P := fun r : Bool × ow_I => K (some (.int (bi ((r).1)))) (S, (r).2, V, z)) hr7 hk
            refine or_nmZ hr7 ?_
            try dsimp only at hk
            exact or_zret E F dX11_failsAtBarrel_71 (Nat.le_refl _) (Nat.le_refl _) (bi_nar _) hk
        · replace hk := ite_p (P := fun r : Bool × ow_I => K (some (.int (bi ((r).1)))) (S, (r).2, V, z)) q52 hk
          refine or_iconst (v := nI 1) E rfl dX11_failsAtBarrel_55 ?_
          try dsimp only at hk
          exact or_zret E F dX11_failsAtBarrel_56 (Nat.le_refl _) (Nat.le_refl _) (bi_nar true) hk
      · replace hk := ite_n (P := fun r : Bool × ow_I => K (some (.int (bi ((r).1)))) (S, (r).2, V, z)) q28 hk
        refine or_aload_n E rfl dX11_failsAtBarrel_31 ?_
        refine ot_getI E fl_11_196 dX11_failsAtBarrel_32 h_m.1 rfl ?_
        refine or_iconst (v := nI 2) E rfl dX11_failsAtBarrel_35 ?_
        refine or_icmp_ne 89 E dX11_failsAtBarrel_36 rfl (fun q36 => ?_) (fun q36 => ?_)
        · replace hk := ite_n (P := fun r : Bool × ow_I => K (some (.int (bi ((r).1)))) (S, (r).2, V, z)) q36 hk
          refine or_iconst (v := nI 0) E rfl dX11_failsAtBarrel_89 ?_
          try dsimp only at hk
          exact or_zret E F dX11_failsAtBarrel_90 (Nat.le_refl _) (Nat.le_refl _) (bi_nar false) hk
        · replace hk := ite_p (P := fun r : Bool × ow_I => K (some (.int (bi ((r).1)))) (S, (r).2, V, z)) q36 hk
          refine or_aload_n E rfl dX11_failsAtBarrel_39 ?_
          refine or_aload_n E rfl dX11_failsAtBarrel_40 ?_
          refine ot_getI E fl_11_232 dX11_failsAtBarrel_41 h_m.1 rfl ?_
          refine or_top (nI_tn hn).symm ?_
          refine or_bipush (v := nI 10) E rfl dX11_failsAtBarrel_44 ?_
          refine or_sipush (v := nI 150) E rfl dX11_failsAtBarrel_46 ?_
          refine or_cV3r (cM_failsAtThis  h_m (by omega)) E lk_11_217 dX11_failsAtBarrel_49 h_m.1 rfl rfl (by decide) (by decide) ⟨Nat.le_refl _, Nat.le_refl _⟩ (Nat.le_of_ble_eq_true rfl) ?_
          obtain ⟨r8, hr8⟩ : ∃ y_ : Bool × ow_I, y_ = M_failsAtThis m (tn (I m 13)) (nI 10) (nI 150) I := ⟨_, rfl⟩
          replace hk := lt_k (P := fun r : Bool × ow_I => K (some (.int (bi ((r).1)))) (S, (r).2, V, z)) hr8 hk
          refine or_nmZ hr8 ?_
          refine or_if_eqZ 57 E dX11_failsAtBarrel_52 rfl (fun q52 => ?_) (fun q52 => ?_)
          · replace hk := ite_n (P := fun r : Bool × ow_I => K (some (.int (bi ((r).1)))) (S, (r).2, V, z)) (bz_neg q52) hk
            refine or_aload_n E rfl dX11_failsAtBarrel_57 ?_
            refine ot_getI E fl_11_232 dX11_failsAtBarrel_58 h_m.1 rfl ?_
            refine or_top (y := nI (tn (I m 13))) (by subst hr8; simp (disch := omega) only [fr_this, nI_tn hn]) ?_
            refine or_bipush (v := nI 9) E rfl dX11_failsAtBarrel_61 ?_
            refine or_icmp_leN 72 E dX11_failsAtBarrel_63 rfl (by omega) (by omega) (fun q63 => ?_) (fun q63 => ?_)
            · replace hk := ite_p (P := fun r : Bool × ow_I => K (some (.int (bi ((r).1)))) (S, (r).2, V, z)) q63 hk
              refine or_aload_n E rfl dX11_failsAtBarrel_72 ?_
              refine or_dup E rfl dX11_failsAtBarrel_73 ?_
              refine ot_getI E fl_11_232 dX11_failsAtBarrel_74 h_m.1 rfl ?_
              refine or_iconst (v := nI 1) E rfl dX11_failsAtBarrel_77 ?_
              refine or_iadd E dX11_failsAtBarrel_78 ?_
              refine ot_putI E fl_11_232 fw_11_13 dX11_failsAtBarrel_79 h_m.1 rfl ?_
              obtain ⟨I9, hI9⟩ : ∃ y_ : ow_I, y_ = ow_u r8.2 m 13 (r8.2 m 13 + (nI 1)) := ⟨_, rfl⟩
              replace hk := lt_k (P := fun r : Bool × ow_I => K (some (.int (bi ((r).1)))) (S, (r).2, V, z)) hI9 hk
              refine or_nmI hI9 ?_
              refine or_aload_n E rfl dX11_failsAtBarrel_82 ?_
              refine or_cV0v (cM_readToken  h_m (by subst hI9 hr8; exact (mdW_o (W_this hw) _ (by decide) (by decide) (by decide)).1)) E lk_11_211 dX11_failsAtBarrel_83 h_m.1 rfl rfl (by decide) (by decide) ⟨Nat.le_refl _, Nat.le_refl _⟩ (Nat.le_of_ble_eq_true rfl) ?_
              obtain ⟨I10, hI10⟩ : ∃ y_ : ow_I, y_ = M_readToken m I9 := ⟨_, rfl⟩
              replace hk := lt_k (P := fun r : Bool × ow_I => K (some (.int (bi ((r).1)))) (S, (r).2, V, z)) hI10 hk
              refine or_nmI hI10 ?_
              refine or_goto 23 E dX11_failsAtBarrel_86 rfl ?_
              refine or_lv _ ?_ (ih _  (by subst hI10 hI9 hr8; exact (W_readToken (mdW_o (W_this hw) _ (by decide) (by decide) (by decide)).1)) (by subst hI10 hI9 hr8; simp (disch := omega) only [fr_readToken, ow_u_s, fr_this]; exact (tn_inc hn (by omega)).1) (by subst hI10 hI9 hr8; simp (disch := omega) only [fr_readToken, ow_u_s, fr_this]; rw [(tn_inc hn (by omega)).2]; omega) (by subst hI10 hI9 hr8; simp (disch := omega) only [fr_readToken, ow_u_s, fr_this]; rw [(tn_inc hn (by omega)).2]; omega) (by subst hI10 hI9 hr8; simp (disch := omega) only [fr_readToken, ow_u_s, fr_this]; rw [(tn_inc hn (by omega)).2]; omega) hk)
              rfl
            · replace hk := ite_n (P := fun r : Bool × ow_I => K (some (.int (bi ((r).1)))) (S, (r).2, V, z)) q63 hk
              refine or_aload_n E rfl dX11_failsAtBarrel_66 ?_
              refine or_iconst (v := nI 3) E rfl dX11_failsAtBarrel_67 ?_
              refine or_cV1r (cM_fails  h_m ) E lk_11_214 dX11_failsAtBarrel_68 h_m.1 rfl rfl (by decide) (by decide) ⟨Nat.le_refl _, Nat.le_refl _⟩ (Nat.le_of_ble_eq_true rfl) ?_
              obtain ⟨r11, hr11⟩ : ∃ y_ : Bool × ow_I, y_ = M_fails m (nI 3) r8.2 := ⟨_, rfl⟩
              replace hk := lt_k (P := fun r : Bool × ow_I => K (some (.int (bi ((r).1)))) (S, (r).2, V, z)) hr11 hk
              refine or_nmZ hr11 ?_
              try dsimp only at hk
              exact or_zret E F dX11_failsAtBarrel_71 (Nat.le_refl _) (Nat.le_refl _) (bi_nar _) hk
          · replace hk := ite_p (P := fun r : Bool × ow_I => K (some (.int (bi ((r).1)))) (S, (r).2, V, z)) q52 hk
            refine or_iconst (v := nI 1) E rfl dX11_failsAtBarrel_55 ?_
            try dsimp only at hk
            exact or_zret E F dX11_failsAtBarrel_56 (Nat.le_refl _) (Nat.le_refl _) (bi_nar true) hk
  dsimp only [M_failsAtBarrel] at hk
  refine or_aload_n E rfl dX11_failsAtBarrel_0 ?_
  refine or_iconst (v := nI 0) E rfl dX11_failsAtBarrel_1 ?_
  refine or_iconst (v := nI 1) E rfl dX11_failsAtBarrel_2 ?_
  refine or_sipush (v := nI 999) E rfl dX11_failsAtBarrel_3 ?_
  refine or_cV3r (cM_failsAtNumber  h_m (by decide) ht) E lk_11_226 dX11_failsAtBarrel_6 h_m.1 rfl rfl (by decide) (by decide) ⟨Nat.le_refl _, Nat.le_refl _⟩ (Nat.le_of_ble_eq_true rfl) ?_
  obtain ⟨r1, hr1⟩ : ∃ y_ : Bool × ow_I, y_ = M_failsAtNumber m 0 (nI 1) (nI 999) I := ⟨_, rfl⟩
  replace hk := lt_k (P := fun r : Bool × ow_I => K (some (.int (bi ((r).1)))) (S, (r).2, V, z)) hr1 hk
  refine or_nmZ hr1 ?_
  refine or_if_eqZ 14 E dX11_failsAtBarrel_9 rfl (fun q9 => ?_) (fun q9 => ?_)
  · replace hk := ite_n (P := fun r : Bool × ow_I => K (some (.int (bi ((r).1)))) (S, (r).2, V, z)) (bz_neg q9) hk
    refine or_aload_n E rfl dX11_failsAtBarrel_14 ?_
    refine or_iconst (v := nI 1) E rfl dX11_failsAtBarrel_15 ?_
    refine ot_putI E fl_11_232 fw_11_13 dX11_failsAtBarrel_16 h_m.1 rfl ?_
    obtain ⟨I2, hI2⟩ : ∃ y_ : ow_I, y_ = ow_u r1.2 m 13 (nI 1) := ⟨_, rfl⟩
    replace hk := lt_k (P := fun r : Bool × ow_I => K (some (.int (bi ((r).1)))) (S, (r).2, V, z)) hI2 hk
    refine or_nmI hI2 ?_
    refine or_aload_n E rfl dX11_failsAtBarrel_19 ?_
    refine or_cV0v (cM_readToken  h_m (by subst hI2 hr1; exact (mdW_o (W_num ht) _ (by decide) (by decide) (by decide)).1)) E lk_11_211 dX11_failsAtBarrel_20 h_m.1 rfl rfl (by decide) (by decide) ⟨Nat.le_refl _, Nat.le_refl _⟩ (Nat.le_of_ble_eq_true rfl) ?_
    obtain ⟨I3, hI3⟩ : ∃ y_ : ow_I, y_ = M_readToken m I2 := ⟨_, rfl⟩
    replace hk := lt_k (P := fun r : Bool × ow_I => K (some (.int (bi ((r).1)))) (S, (r).2, V, z)) hI3 hk
    refine or_nmI hI3 ?_
    refine or_lv _ ?_ (L23 11 _  (by subst hI3 hI2 hr1; exact (W_readToken (mdW_o (W_num ht) _ (by decide) (by decide) (by decide)).1)) (by subst hI3 hI2 hr1; simp (disch := omega) only [fr_readToken, ow_u_s, fr_this]; exact nI_ge0 (by decide)) (by subst hI3 hI2 hr1; simp (disch := omega) only [fr_readToken, ow_u_s, fr_this]; rw [tn_nI (by decide)]; omega) (by subst hI3 hI2 hr1; simp (disch := omega) only [fr_readToken, ow_u_s, fr_this]; rw [tn_nI (by decide)]; omega) (by omega) hk)
    rfl
  · replace hk := ite_p (P := fun r : Bool × ow_I => K (some (.int (bi ((r).1)))) (S, (r).2, V, z)) q9 hk
    refine or_iconst (v := nI 1) E rfl dX11_failsAtBarrel_12 ?_
    try dsimp only at hk
    exact or_zret E F dX11_failsAtBarrel_13 (Nat.le_refl _) (Nat.le_refl _) (bi_nar true) hk
