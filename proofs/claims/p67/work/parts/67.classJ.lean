theorem kc_1 {a : Nat} {x e : Int32} {I : ow_I} (hV : k_V a I) (h : K_canCut a x e I = true) : 0 ≤ x ∧ tn x < tn (I a 10) ∧ 0 ≤ e ∧ 1 ≤ tn e ∧ tn e < tn (I (a + 11 + 2 * tn x) 1) ∧ tn (I a 10) < 20 := by
  unfold K_canCut at h
  split at h
  · rename_i hw
    have w := kw_1 hw
    split at h
    · exact absurd h (by decide)
    · rename_i h1
      have h1 := i_nlt h1
      have he : 0 ≤ e := by
        rw [Int32.le_iff_toInt_le] at h1 ⊢
        have z : (0 : Int32).toInt = 0 := by decide
        have y : (nI 1).toInt = 1 := by decide
        omega
      split at h
      · exact absurd h (by decide)
      · rename_i h2
        split at h
        · rename_i hr
          have r := lt_tn (i_lt h2) he
          refine ⟨w.1, w.2.1, he, ?_, r.2, kr_1 hr hV.2.1.1⟩
          rw [← nI_tn he] at h1
          rcases Nat.eq_zero_or_pos (tn e) with z | z
          · rw [z] at h1; exact absurd h1 (by decide)
          · exact z
        · exact absurd h (by decide)
  · exact absurd h (by decide)
theorem lc_6_83 : ow_lc RX6 83 := ⟨ow_T_in 892 (by decide +kernel) (by decide +kernel), ow_T_in 621 (by decide +kernel) (by decide +kernel), ow_T_in 620 (by decide +kernel) (by decide +kernel), ow_T_in 21 (by decide +kernel) (by decide +kernel)⟩
theorem lm_6_137 : ow_lm RX6 137 Lib.Math.max.name Lib.Math.max.code := ⟨ow_T_in 1092 (by decide +kernel) (by decide +kernel), ow_T_in 524 (by decide +kernel) (by decide +kernel), ow_T_in 18 (by decide +kernel) (by decide +kernel), ow_T_in 525 (by decide +kernel) (by decide +kernel)⟩
theorem fl_6_18 : ow_fl RX6 18 6 1 := ⟨_, rfl, by decide, ow_T_in 157 (by decide +kernel) (by decide +kernel), ow_ok6⟩
theorem fl_6_143 : ow_fl RX6 143 1 0 := ⟨_, rfl, by decide, ow_T_in 104 (by decide +kernel) (by decide +kernel), ow_ok1⟩
theorem fw_6_1 : ∃ r : vw_C, ow_cl[6]? = some r ∧ (r.2.1 1).2.2.2 = false ∧ parseFieldDescriptor (r.2.1 1).2.2.1 = some .int := ⟨_, rfl, rfl, by decide +kernel⟩
theorem fw_6_2 : ∃ r : vw_C, ow_cl[6]? = some r ∧ (r.2.1 2).2.2.2 = false ∧ parseFieldDescriptor (r.2.1 2).2.2.1 = some .int := ⟨_, rfl, rfl, by decide +kernel⟩
theorem fw_6_3 : ∃ r : vw_C, ow_cl[6]? = some r ∧ (r.2.1 3).2.2.2 = false ∧ parseFieldDescriptor (r.2.1 3).2.2.1 = some .int := ⟨_, rfl, rfl, by decide +kernel⟩
theorem lk_6_55 : ow_lv RX6 55 yX8_copyFrom cX8_copyFrom 2 none 1 := ⟨ow_T_in 879 (by decide +kernel) (by decide +kernel), ow_T_in 880 (by decide +kernel) (by decide +kernel), ow_T_in 881 (by decide +kernel) (by decide +kernel), ow_T_in 3 (by decide +kernel) (by decide +kernel), ow_T_in 882 (by decide +kernel) (by decide +kernel), ⟨by decide +kernel, by decide +kernel, by decide +kernel⟩⟩
theorem lk_6_74 : ow_lv RX6 74 yX2_copyFrom cX2_copyFrom 2 none 1 := ⟨ow_T_in 883 (by decide +kernel) (by decide +kernel), ow_T_in 884 (by decide +kernel) (by decide +kernel), ow_T_in 885 (by decide +kernel) (by decide +kernel), ow_T_in 4 (by decide +kernel) (by decide +kernel), ow_T_in 886 (by decide +kernel) (by decide +kernel), ⟨by decide +kernel, by decide +kernel, by decide +kernel⟩⟩
theorem lk_6_80 : ow_lv RX6 80 yX1_copyFrom cX1_copyFrom 2 none 1 := ⟨ow_T_in 887 (by decide +kernel) (by decide +kernel), ow_T_in 888 (by decide +kernel) (by decide +kernel), ow_T_in 889 (by decide +kernel) (by decide +kernel), ow_T_in 5 (by decide +kernel) (by decide +kernel), ow_T_in 890 (by decide +kernel) (by decide +kernel), ⟨by decide +kernel, by decide +kernel, by decide +kernel⟩⟩
theorem lk_6_130 : ow_lv RX6 130 yX6_canCut cX6_canCut 3 (some .boolean) 2 := ⟨ow_T_in 1091 (by decide +kernel) (by decide +kernel), ow_T_in 1079 (by decide +kernel) (by decide +kernel), ow_T_in 1080 (by decide +kernel) (by decide +kernel), ow_T_in 2 (by decide +kernel) (by decide +kernel), ow_T_in 1081 (by decide +kernel) (by decide +kernel), ⟨by decide +kernel, by decide +kernel, by decide +kernel⟩⟩
theorem lk_6_146 : ow_lv RX6 146 yX6_takeBarrel cX6_takeBarrel 6 (some .int) 4 := ⟨ow_T_in 1093 (by decide +kernel) (by decide +kernel), ow_T_in 504 (by decide +kernel) (by decide +kernel), ow_T_in 505 (by decide +kernel) (by decide +kernel), ow_T_in 2 (by decide +kernel) (by decide +kernel), ow_T_in 506 (by decide +kernel) (by decide +kernel), ⟨by decide +kernel, by decide +kernel, by decide +kernel⟩⟩
theorem lk_6_150 : ow_lv RX6 150 yX1_keepFirst cX1_keepFirst 2 none 1 := ⟨ow_T_in 1094 (by decide +kernel) (by decide +kernel), ow_T_in 1095 (by decide +kernel) (by decide +kernel), ow_T_in 1096 (by decide +kernel) (by decide +kernel), ow_T_in 5 (by decide +kernel) (by decide +kernel), ow_T_in 1097 (by decide +kernel) (by decide +kernel), ⟨by decide +kernel, by decide +kernel, by decide +kernel⟩⟩
theorem lk_6_212 : ow_lv RX6 212 yX6_takeNod cX6_takeNod 2 none 1 := ⟨ow_T_in 1228 (by decide +kernel) (by decide +kernel), ow_T_in 1061 (by decide +kernel) (by decide +kernel), ow_T_in 1062 (by decide +kernel) (by decide +kernel), ow_T_in 2 (by decide +kernel) (by decide +kernel), ow_T_in 1063 (by decide +kernel) (by decide +kernel), ⟨by decide +kernel, by decide +kernel, by decide +kernel⟩⟩
theorem lk_6_233 : ow_lv RX6 233 yX8_hornBlows cX8_hornBlows 1 (some .boolean) 0 := ⟨ow_T_in 1196 (by decide +kernel) (by decide +kernel), ow_T_in 1197 (by decide +kernel) (by decide +kernel), ow_T_in 1198 (by decide +kernel) (by decide +kernel), ow_T_in 3 (by decide +kernel) (by decide +kernel), ow_T_in 1199 (by decide +kernel) (by decide +kernel), ⟨by decide +kernel, by decide +kernel, by decide +kernel⟩⟩
theorem lk_6_236 : ow_lv RX6 236 yX6_closeBarrel cX6_closeBarrel 2 (some .boolean) 0 := ⟨ow_T_in 1200 (by decide +kernel) (by decide +kernel), ow_T_in 1202 (by decide +kernel) (by decide +kernel), ow_T_sel 25 (by decide +kernel) (by decide +kernel), ow_T_in 2 (by decide +kernel) (by decide +kernel), ow_T_in 1203 (by decide +kernel) (by decide +kernel), ⟨by decide +kernel, by decide +kernel, by decide +kernel⟩⟩
theorem lk_6_239 : ow_lv RX6 239 yX6_openFirst cX6_openFirst 1 none 0 := ⟨ow_T_in 1212 (by decide +kernel) (by decide +kernel), ow_T_in 1214 (by decide +kernel) (by decide +kernel), ow_T_sel 28 (by decide +kernel) (by decide +kernel), ow_T_in 2 (by decide +kernel) (by decide +kernel), ow_T_in 1215 (by decide +kernel) (by decide +kernel), ⟨by decide +kernel, by decide +kernel, by decide +kernel⟩⟩
theorem lk_6_242 : ow_lv RX6 242 yX6_whoNods cX6_whoNods 5 (some .int) 0 := ⟨ow_T_in 1216 (by decide +kernel) (by decide +kernel), ow_T_in 1217 (by decide +kernel) (by decide +kernel), ow_T_in 1218 (by decide +kernel) (by decide +kernel), ow_T_in 2 (by decide +kernel) (by decide +kernel), ow_T_in 1219 (by decide +kernel) (by decide +kernel), ⟨by decide +kernel, by decide +kernel, by decide +kernel⟩⟩
def K_passOneMinute (a : Nat) (I : ow_I) : Bool × ow_I :=
  lt (ow_u I (a + 1) 2 (I (a + 1) 2 + (nI 1))) (fun (I1 : ow_I) => if T_hornBlows (a + 1) I1 then lt (K_closeBarrel a I1) (fun (r6 : Bool × ow_I) => (r6.1, r6.2)) else if T_isLow (a + 1) I1 then if I1 a 13 = (-1) then lt (K_openFirst a I1) (fun (I5 : ow_I) => (false, I5)) else if K_whoNods a I1 = (-1) then lt (ow_u I1 a 16 (I1 a 16 + (nI 1))) (fun (I2 : ow_I) => if I2 a 16 = I2 a 1 then lt (K_closeBarrel a I2) (fun (r3 : Bool × ow_I) => if r3.1 then (true, r3.2) else (false, r3.2)) else (false, I2)) else lt (K_takeNod a (K_whoNods a I1) I1) (fun (I4 : ow_I) => (false, I4)) else (false, I1))
set_option maxRecDepth 100000 in
set_option maxHeartbeats 400000 in
theorem cK_passOneMinute {S : Nat → Option ow_Sh} {I : ow_I} {V : Nat → Nat → Value} {z : Nat} {a : Nat} (h_a : mk_S S a) (hV : k_V a I) : ow_Cf yX6_passOneMinute cX6_passOneMinute 2 (some .boolean) 3 [.ref a] (S, I, V, z) (some (.int (bi ((K_passOneMinute a I).1)))) (S, (K_passOneMinute a I).2, V, z) := by
  refine ow_Cf.of rfl (Nat.le_of_ble_eq_true rfl) (fun X K E F hk => ?_)
  have E : ow_E X RX6 cX6_passOneMinute 2 (ow_rm 3 0 0) := E
  refine or_lv [(0, .ref a)] rfl ?_
  dsimp only [K_passOneMinute] at hk
  refine or_aload_n E rfl dX6_passOneMinute_0 ?_
  refine ot_getC E fl_6_12 dX6_passOneMinute_1 h_a.1 rfl ?_
  refine or_dup E rfl dX6_passOneMinute_4 ?_
  refine ot_getI E fl_6_92 dX6_passOneMinute_5 h_a.2.1 rfl ?_
  refine or_iconst (v := nI 1) E rfl dX6_passOneMinute_8 ?_
  refine or_iadd E dX6_passOneMinute_9 ?_
  refine ot_putI E fl_6_92 fw_8_2 dX6_passOneMinute_10 h_a.2.1 rfl ?_
  obtain ⟨I1, hI1⟩ : ∃ y_ : ow_I, y_ = ow_u I (a + 1) 2 (I (a + 1) 2 + (nI 1)) := ⟨_, rfl⟩
  replace hk := lt_k (P := fun r : Bool × ow_I => K (some (.int (bi ((r).1)))) (S, (r).2, V, z)) hI1 hk
  refine or_nmI hI1 ?_
  refine or_aload_n E rfl dX6_passOneMinute_13 ?_
  refine ot_getC E fl_6_12 dX6_passOneMinute_14 h_a.1 rfl ?_
  refine or_cV0r (cT_hornBlows  h_a.2.1 ) E lk_6_233 dX6_passOneMinute_17 h_a.2.1 rfl rfl (by decide) (by decide) ⟨Nat.le_refl _, Nat.le_refl _⟩ (Nat.le_of_ble_eq_true rfl) ?_
  refine or_if_eqZ 28 E dX6_passOneMinute_20 rfl (fun q20 => ?_) (fun q20 => ?_)
  · replace hk := ite_n (P := fun r : Bool × ow_I => K (some (.int (bi ((r).1)))) (S, (r).2, V, z)) (bz_neg q20) hk
    refine or_aload_n E rfl dX6_passOneMinute_28 ?_
    refine ot_getC E fl_6_12 dX6_passOneMinute_29 h_a.1 rfl ?_
    refine or_cV0r (cT_isLow  h_a.2.1 ) E lk_6_170 dX6_passOneMinute_32 h_a.2.1 rfl rfl (by decide) (by decide) ⟨Nat.le_refl _, Nat.le_refl _⟩ (Nat.le_of_ble_eq_true rfl) ?_
    refine or_if_neZ 40 E dX6_passOneMinute_35 rfl (fun q35 => ?_) (fun q35 => ?_)
    · replace hk := ite_p (P := fun r : Bool × ow_I => K (some (.int (bi ((r).1)))) (S, (r).2, V, z)) q35 hk
      refine or_aload_n E rfl dX6_passOneMinute_40 ?_
      refine ot_getI E fl_6_41 dX6_passOneMinute_41 h_a.1 rfl ?_
      refine or_iconst (v := -1) E rfl dX6_passOneMinute_44 ?_
      refine or_icmp_ne 54 E dX6_passOneMinute_45 rfl (fun q45 => ?_) (fun q45 => ?_)
      · replace hk := ite_n (P := fun r : Bool × ow_I => K (some (.int (bi ((r).1)))) (S, (r).2, V, z)) q45 hk
        refine or_aload_n E rfl dX6_passOneMinute_54 ?_
        refine or_cV0r (cK_whoNods  h_a (by subst hI1; exact (kV_t hV))) E lk_6_242 dX6_passOneMinute_55 h_a.1 rfl rfl (by decide) (by decide) ⟨Nat.le_refl _, Nat.le_refl _⟩ (Nat.le_of_ble_eq_true rfl) ?_
        refine or_istore_n E dX6_passOneMinute_58 (by decide) ?_
        refine or_iload_n E rfl dX6_passOneMinute_59 ?_
        refine or_iconst (v := -1) E rfl dX6_passOneMinute_60 ?_
        refine or_icmp_eq 71 E dX6_passOneMinute_61 rfl (fun q61 => ?_) (fun q61 => ?_)
        · replace hk := ite_p (P := fun r : Bool × ow_I => K (some (.int (bi ((r).1)))) (S, (r).2, V, z)) q61 hk
          refine or_aload_n E rfl dX6_passOneMinute_71 ?_
          refine or_dup E rfl dX6_passOneMinute_72 ?_
          refine ot_getI E fl_6_50 dX6_passOneMinute_73 h_a.1 rfl ?_
          refine or_iconst (v := nI 1) E rfl dX6_passOneMinute_76 ?_
          refine or_iadd E dX6_passOneMinute_77 ?_
          refine ot_putI E fl_6_50 fw_6_16 dX6_passOneMinute_78 h_a.1 rfl ?_
          obtain ⟨I2, hI2⟩ : ∃ y_ : ow_I, y_ = ow_u I1 a 16 (I1 a 16 + (nI 1)) := ⟨_, rfl⟩
          replace hk := lt_k (P := fun r : Bool × ow_I => K (some (.int (bi ((r).1)))) (S, (r).2, V, z)) hI2 hk
          refine or_nmI hI2 ?_
          refine or_aload_n E rfl dX6_passOneMinute_81 ?_
          refine ot_getI E fl_6_50 dX6_passOneMinute_82 h_a.1 rfl ?_
          refine or_aload_n E rfl dX6_passOneMinute_85 ?_
          refine ot_getI E fl_6_18 dX6_passOneMinute_86 h_a.1 rfl ?_
          refine or_icmp_ne 103 E dX6_passOneMinute_89 rfl (fun q89 => ?_) (fun q89 => ?_)
          · replace hk := ite_n (P := fun r : Bool × ow_I => K (some (.int (bi ((r).1)))) (S, (r).2, V, z)) q89 hk
            refine or_iconst (v := nI 0) E rfl dX6_passOneMinute_103 ?_
            try dsimp only at hk
            exact or_zret E F dX6_passOneMinute_104 (Nat.le_refl _) (Nat.le_refl _) (bi_nar false) hk
          · replace hk := ite_p (P := fun r : Bool × ow_I => K (some (.int (bi ((r).1)))) (S, (r).2, V, z)) q89 hk
            refine or_aload_n E rfl dX6_passOneMinute_92 ?_
            refine or_cV0r (cK_closeBarrel  h_a (by subst hI2 hI1; exact (kV_q (kV_t hV) (Or.inl rfl)))) E lk_6_236 dX6_passOneMinute_93 h_a.1 rfl rfl (by decide) (by decide) ⟨Nat.le_refl _, Nat.le_refl _⟩ (Nat.le_of_ble_eq_true rfl) ?_
            obtain ⟨r3, hr3⟩ : ∃ y_ : Bool × ow_I, y_ = K_closeBarrel a I2 := ⟨_, rfl⟩
            replace hk := lt_k (P := fun r : Bool × ow_I => K (some (.int (bi ((r).1)))) (S, (r).2, V, z)) hr3 hk
            refine or_nmZ hr3 ?_
            refine or_if_eqZ 103 E dX6_passOneMinute_96 rfl (fun q96 => ?_) (fun q96 => ?_)
            · replace hk := ite_n (P := fun r : Bool × ow_I => K (some (.int (bi ((r).1)))) (S, (r).2, V, z)) (bz_neg q96) hk
              refine or_iconst (v := nI 0) E rfl dX6_passOneMinute_103 ?_
              try dsimp only at hk
              exact or_zret E F dX6_passOneMinute_104 (Nat.le_refl _) (Nat.le_refl _) (bi_nar false) hk
            · replace hk := ite_p (P := fun r : Bool × ow_I => K (some (.int (bi ((r).1)))) (S, (r).2, V, z)) q96 hk
              refine or_iconst (v := nI 1) E rfl dX6_passOneMinute_99 ?_
              refine or_goto 104 E dX6_passOneMinute_100 rfl ?_
              try dsimp only at hk
              exact or_zret E F dX6_passOneMinute_104 (Nat.le_refl _) (Nat.le_refl _) (bi_nar true) hk
        · replace hk := ite_n (P := fun r : Bool × ow_I => K (some (.int (bi ((r).1)))) (S, (r).2, V, z)) q61 hk
          refine or_aload_n E rfl dX6_passOneMinute_64 ?_
          refine or_iload_n E rfl dX6_passOneMinute_65 ?_
          refine or_cV1v (cK_takeNod  h_a (by subst hI1; exact (kV_t hV))) E lk_6_212 dX6_passOneMinute_66 h_a.1 rfl rfl (by decide) (by decide) ⟨Nat.le_refl _, Nat.le_refl _⟩ (Nat.le_of_ble_eq_true rfl) ?_
          obtain ⟨I4, hI4⟩ : ∃ y_ : ow_I, y_ = K_takeNod a (K_whoNods a I1) I1 := ⟨_, rfl⟩
          replace hk := lt_k (P := fun r : Bool × ow_I => K (some (.int (bi ((r).1)))) (S, (r).2, V, z)) hI4 hk
          refine or_nmI hI4 ?_
          refine or_iconst (v := nI 0) E rfl dX6_passOneMinute_69 ?_
          try dsimp only at hk
          exact or_zret E F dX6_passOneMinute_70 (Nat.le_refl _) (Nat.le_refl _) (bi_nar false) hk
      · replace hk := ite_p (P := fun r : Bool × ow_I => K (some (.int (bi ((r).1)))) (S, (r).2, V, z)) q45 hk
        refine or_aload_n E rfl dX6_passOneMinute_48 ?_
        refine or_cV0v (cK_openFirst  h_a (by subst hI1; exact (kV_t hV))) E lk_6_239 dX6_passOneMinute_49 h_a.1 rfl rfl (by decide) (by decide) ⟨Nat.le_refl _, Nat.le_refl _⟩ (Nat.le_of_ble_eq_true rfl) ?_
        obtain ⟨I5, hI5⟩ : ∃ y_ : ow_I, y_ = K_openFirst a I1 := ⟨_, rfl⟩
        replace hk := lt_k (P := fun r : Bool × ow_I => K (some (.int (bi ((r).1)))) (S, (r).2, V, z)) hI5 hk
        refine or_nmI hI5 ?_
        refine or_iconst (v := nI 0) E rfl dX6_passOneMinute_52 ?_
        try dsimp only at hk
        exact or_zret E F dX6_passOneMinute_53 (Nat.le_refl _) (Nat.le_refl _) (bi_nar false) hk
    · replace hk := ite_n (P := fun r : Bool × ow_I => K (some (.int (bi ((r).1)))) (S, (r).2, V, z)) (bz_neg q35) hk
      refine or_iconst (v := nI 0) E rfl dX6_passOneMinute_38 ?_
      try dsimp only at hk
      exact or_zret E F dX6_passOneMinute_39 (Nat.le_refl _) (Nat.le_refl _) (bi_nar false) hk
  · replace hk := ite_p (P := fun r : Bool × ow_I => K (some (.int (bi ((r).1)))) (S, (r).2, V, z)) q20 hk
    refine or_aload_n E rfl dX6_passOneMinute_23 ?_
    refine or_cV0r (cK_closeBarrel  h_a (by subst hI1; exact (kV_t hV))) E lk_6_236 dX6_passOneMinute_24 h_a.1 rfl rfl (by decide) (by decide) ⟨Nat.le_refl _, Nat.le_refl _⟩ (Nat.le_of_ble_eq_true rfl) ?_
    obtain ⟨r6, hr6⟩ : ∃ y_ : Bool × ow_I, y_ = K_closeBarrel a I1 := ⟨_, rfl⟩
    replace hk := lt_k (P := fun r : Bool × ow_I => K (some (.int (bi ((r).1)))) (S, (r).2, V, z)) hr6 hk
    refine or_nmZ hr6 ?_
    try dsimp only at hk
    exact or_zret E F dX6_passOneMinute_27 (Nat.le_refl _) (Nat.le_refl _) (bi_nar _) hk
def K_cut (a : Nat) (x : Int32) (e : Int32) (I : ow_I) : Int32 × ow_I :=
  if K_canCut a x e I then lt (K_takeBarrel a (i_max (((I (a + 11 + 2 * (tn x)) 5) * e) / (nI (tn (I (a + 11 + 2 * (tn x)) 1)))) (nI 1)) ((a + 11 + 2 * (tn x)) + 1) ((tn (I (a + 11 + 2 * (tn x)) 1)) - (tn e)) (tn (I (a + 11 + 2 * (tn x)) 1)) I) (fun (r1 : Int32 × ow_I) => lt (B_keepFirst (a + 11 + 2 * (tn x)) ((tn (I (a + 11 + 2 * (tn x)) 1)) - (tn e)) r1.2) (fun (I2 : ow_I) => lt (ow_u I2 (a + 11 + 2 * (tn x)) 5 (i_max (I2 (a + 11 + 2 * (tn x)) 5 - (((I (a + 11 + 2 * (tn x)) 5) * e) / (nI (tn (I (a + 11 + 2 * (tn x)) 1))))) (nI 1))) (fun (I3 : ow_I) => (r1.1, I3)))) else ((-1), I)
set_option maxRecDepth 100000 in
set_option maxHeartbeats 400000 in
theorem cK_cut {S : Nat → Option ow_Sh} {I : ow_I} {V : Nat → Nat → Value} {z : Nat} {a : Nat} {x : Int32} {e : Int32} (h_a : mk_S S a) (hV : k_V a I) : ow_Cf yX6_cut cX6_cut 7 (some .int) 4 [.ref a, .int x, .int e] (S, I, V, z) (some (.int ((K_cut a x e I).1))) (S, (K_cut a x e I).2, V, z) := by
  refine ow_Cf.of rfl (Nat.le_of_ble_eq_true rfl) (fun X K E F hk => ?_)
  have E : ow_E X RX6 cX6_cut 7 (ow_rm 4 0 0) := E
  refine or_lv [(0, .ref a), (1, .int x), (2, .int e)] rfl ?_
  dsimp only [K_cut] at hk
  refine or_aload_n E rfl dX6_cut_0 ?_
  refine or_iload_n E rfl dX6_cut_1 ?_
  refine or_iload_n E rfl dX6_cut_2 ?_
  refine or_cV2r (cK_canCut  h_a hV) E lk_6_130 dX6_cut_3 h_a.1 rfl rfl (by decide) (by decide) ⟨Nat.le_refl _, Nat.le_refl _⟩ (Nat.le_of_ble_eq_true rfl) ?_
  refine or_if_neZ 11 E dX6_cut_6 rfl (fun q6 => ?_) (fun q6 => ?_)
  · replace hk := ite_p (P := fun r : Int32 × ow_I => K (some (.int ((r).1))) (S, (r).2, V, z)) q6 hk
    refine or_aload_n E rfl dX6_cut_11 ?_
    refine ot_getC E fl_6_33 dX6_cut_12 h_a.1 rfl ?_
    refine or_iload_n E rfl dX6_cut_15 ?_
    refine or_top (nI_tn (kc_1 hV q6).1).symm ?_
    refine ot_aald (j := tn x) E dX6_cut_16 h_a.2.2.2.1 rfl rfl (by have := (kc_1 hV q6).2.1; have := hV.2.1.2; omega) (Nat.le_of_ble_eq_true rfl) ?_
    refine or_astore_n E dX6_cut_17 (by decide) ?_
    refine or_aload_n E rfl dX6_cut_18 ?_
    refine ot_getI E fl_6_108 dX6_cut_19 (h_a.2.2.2.2.2.2 (tn x) (by have := (kc_1 hV q6).2.1; have := hV.2.1.2; omega)).1 rfl ?_
    refine or_top (nI_tn (hV.2.2.2.2.2.2 (tn x) (by have := (kc_1 hV q6).2.1; have := hV.2.1.2; omega)).1).symm ?_
    refine or_istore E dX6_cut_22 (by decide) ?_
    refine or_aload_n E rfl dX6_cut_24 ?_
    refine ot_getI E fl_6_134 dX6_cut_25 (h_a.2.2.2.2.2.2 (tn x) (by have := (kc_1 hV q6).2.1; have := hV.2.1.2; omega)).1 rfl ?_
    refine or_iload_n E rfl dX6_cut_28 ?_
    refine or_imul E dX6_cut_29 ?_
    refine or_iload E rfl dX6_cut_30 ?_
    refine or_idiv E (by have := (kc_1 hV q6).2.2.2.2; have := (hV.2.2.2.2.2.2 (tn x) (by have := (kc_1 hV q6).2.1; have := hV.2.1.2; omega)).2; rw [nI_z (by omega)]; omega) dX6_cut_32 ?_
    refine or_istore E dX6_cut_33 (by decide) ?_
    refine or_aload_n E rfl dX6_cut_35 ?_
    refine or_iload E rfl dX6_cut_36 ?_
    refine or_iconst (v := nI 1) E rfl dX6_cut_38 ?_
    refine or_mmax E lm_6_137 dX6_cut_39 (Nat.le_of_ble_eq_true rfl) ⟨Nat.le_refl _, Nat.le_refl _⟩ (Nat.le_of_ble_eq_true rfl) ?_
    refine or_aload_n E rfl dX6_cut_42 ?_
    refine ot_getC E fl_6_143 dX6_cut_43 (h_a.2.2.2.2.2.2 (tn x) (by have := (kc_1 hV q6).2.1; have := hV.2.1.2; omega)).1 rfl ?_
    refine or_iload E rfl dX6_cut_46 ?_
    refine or_iload_n E rfl dX6_cut_48 ?_
    refine or_top (nI_tn (kc_1 hV q6).2.2.1).symm ?_
    refine or_isubN E dX6_cut_49 (by have := (kc_1 hV q6).2.2.2.2; omega) ?_
    refine or_iload E rfl dX6_cut_50 ?_
    refine or_cV4r (cK_takeBarrel  h_a (h_a.2.2.2.2.2.2 (tn x) (by have := (kc_1 hV q6).2.1; have := hV.2.1.2; omega)).2 hV (by have := (hV.2.2.2.2.2.2 (tn x) (by have := (kc_1 hV q6).2.1; have := hV.2.1.2; omega)).2; omega) (by have := (hV.2.2.2.2.2.2 (tn x) (by have := (kc_1 hV q6).2.1; have := hV.2.1.2; omega)).2; omega)) E lk_6_146 dX6_cut_52 h_a.1 rfl rfl (by decide) (by decide) ⟨Nat.le_refl _, Nat.le_refl _⟩ (Nat.le_of_ble_eq_true rfl) ?_
    obtain ⟨r1, hr1⟩ : ∃ y_ : Int32 × ow_I, y_ = K_takeBarrel a (i_max (((I (a + 11 + 2 * (tn x)) 5) * e) / (nI (tn (I (a + 11 + 2 * (tn x)) 1)))) (nI 1)) ((a + 11 + 2 * (tn x)) + 1) ((tn (I (a + 11 + 2 * (tn x)) 1)) - (tn e)) (tn (I (a + 11 + 2 * (tn x)) 1)) I := ⟨_, rfl⟩
    replace hk := lt_k (P := fun r : Int32 × ow_I => K (some (.int ((r).1))) (S, (r).2, V, z)) hr1 hk
    refine or_nmJ hr1 ?_
    refine or_istore E dX6_cut_55 (by decide) ?_
    refine or_aload_n E rfl dX6_cut_57 ?_
    refine or_iload E rfl dX6_cut_58 ?_
    refine or_iload_n E rfl dX6_cut_60 ?_
    refine or_top (nI_tn (by subst hr1; exact (kc_1 hV q6).2.2.1)).symm ?_
    refine or_isubN E dX6_cut_61 (by subst hr1; have := (kc_1 hV q6).2.2.2.2; omega) ?_
    refine or_cV1v (cB_keepFirst  (h_a.2.2.2.2.2.2 (tn x) (by have := (kc_1 hV q6).2.1; have := hV.2.1.2; omega)) (by subst hr1; have := (hV.2.2.2.2.2.2 (tn x) (by have := (kc_1 hV q6).2.1; have := hV.2.1.2; omega)).2; omega)) E lk_6_150 dX6_cut_62 (h_a.2.2.2.2.2.2 (tn x) (by have := (kc_1 hV q6).2.1; have := hV.2.1.2; omega)).1 rfl rfl (by decide) (by decide) ⟨Nat.le_refl _, Nat.le_refl _⟩ (Nat.le_of_ble_eq_true rfl) ?_
    obtain ⟨I2, hI2⟩ : ∃ y_ : ow_I, y_ = B_keepFirst (a + 11 + 2 * (tn x)) ((tn (I (a + 11 + 2 * (tn x)) 1)) - (tn e)) r1.2 := ⟨_, rfl⟩
    replace hk := lt_k (P := fun r : Int32 × ow_I => K (some (.int ((r).1))) (S, (r).2, V, z)) hI2 hk
    refine or_nmI hI2 ?_
    refine or_aload_n E rfl dX6_cut_65 ?_
    refine or_aload_n E rfl dX6_cut_66 ?_
    refine ot_getI E fl_6_134 dX6_cut_67 (h_a.2.2.2.2.2.2 (tn x) (by have := (kc_1 hV q6).2.1; have := hV.2.1.2; omega)).1 rfl ?_
    refine or_iload E rfl dX6_cut_70 ?_
    refine or_isub E dX6_cut_72 ?_
    refine or_iconst (v := nI 1) E rfl dX6_cut_73 ?_
    refine or_mmax E lm_6_137 dX6_cut_74 (Nat.le_of_ble_eq_true rfl) ⟨Nat.le_refl _, Nat.le_refl _⟩ (Nat.le_of_ble_eq_true rfl) ?_
    refine ot_putI E fl_6_134 fw_1_5 dX6_cut_77 (h_a.2.2.2.2.2.2 (tn x) (by have := (kc_1 hV q6).2.1; have := hV.2.1.2; omega)).1 rfl ?_
    obtain ⟨I3, hI3⟩ : ∃ y_ : ow_I, y_ = ow_u I2 (a + 11 + 2 * (tn x)) 5 (i_max (I2 (a + 11 + 2 * (tn x)) 5 - (((I (a + 11 + 2 * (tn x)) 5) * e) / (nI (tn (I (a + 11 + 2 * (tn x)) 1))))) (nI 1)) := ⟨_, rfl⟩
    replace hk := lt_k (P := fun r : Int32 × ow_I => K (some (.int ((r).1))) (S, (r).2, V, z)) hI3 hk
    refine or_nmI hI3 ?_
    refine or_iload E rfl dX6_cut_80 ?_
    try dsimp only at hk
    exact or_iret E F dX6_cut_82 (Nat.le_refl _) (Nat.le_refl _) hk
  · replace hk := ite_n (P := fun r : Int32 × ow_I => K (some (.int ((r).1))) (S, (r).2, V, z)) (bz_neg q6) hk
    refine or_iconst (v := -1) E rfl dX6_cut_9 ?_
    try dsimp only at hk
    exact or_iret E F dX6_cut_10 (Nat.le_refl _) (Nat.le_refl _) hk
def K_copyFrom_L108 (a : Nat) (o : Nat) : Nat → ow_I → Nat → ow_I
  | 0, I, _ => I
  | n + 1, I, i => if tn (I a 10) ≤ i then lt (ow_cp I (o + 4) (a + 4) 20) (fun (I10 : ow_I) => lt (ow_u I10 a 12 (I10 o 12)) (fun (I11 : ow_I) => lt (ow_u I11 a 13 (I11 o 13)) (fun (I12 : ow_I) => lt (ow_u I12 a 14 (I12 o 14)) (fun (I13 : ow_I) => lt (ow_u I13 a 15 (I13 o 15)) (fun (I14 : ow_I) => lt (ow_u I14 a 16 (I14 o 16)) (fun (I15 : ow_I) => I15)))))) else lt (B_copyFrom (a + 11 + 2 * i) (o + 11 + 2 * i) I) (fun (I16 : ow_I) => K_copyFrom_L108 a o n I16 (i + 1))
def K_copyFrom_L69 (a : Nat) (o : Nat) : Nat → ow_I → Nat → ow_I
  | 0, I, _ => I
  | n + 1, I, i => if tn (I a 8) ≤ i then lt (ow_u I a 10 (I o 10)) (fun (I9 : ow_I) => K_copyFrom_L108 a o 21 I9 0) else lt (Y_copyFrom (a + 5 + i) (o + 5 + i) I) (fun (I17 : ow_I) => K_copyFrom_L69 a o n I17 (i + 1))
def K_copyFrom (a : Nat) (o : Nat) (I : ow_I) : ow_I :=
  lt (T_copyFrom (a + 1) (o + 1) I) (fun (I1 : ow_I) => lt (ow_u I1 a 1 (I1 o 1)) (fun (I2 : ow_I) => lt (ow_u I2 a 2 (I2 o 2)) (fun (I3 : ow_I) => lt (ow_u I3 a 3 (I3 o 3)) (fun (I4 : ow_I) => lt (ow_u I4 a 4 (I4 o 4)) (fun (I5 : ow_I) => lt (ow_u I5 a 5 (I5 o 5)) (fun (I6 : ow_I) => lt (ow_u I6 a 6 (I6 o 6)) (fun (I7 : ow_I) => lt (ow_u I7 a 8 (I7 o 8)) (fun (I8 : ow_I) => K_copyFrom_L69 a o 7 I8 0))))))))
set_option maxRecDepth 100000 in
set_option maxHeartbeats 400000 in
theorem cK_copyFrom {S : Nat → Option ow_Sh} {I : ow_I} {V : Nat → Nat → Value} {z : Nat} {a : Nat} {o : Nat} (h_a : mk_S S a) (h_o : mk_S S o) (hd : o + 51 ≤ a ∨ a + 51 ≤ o) (g8 : 0 ≤ I o 8) (g8b : tn (I o 8) ≤ 6) (g10 : 0 ≤ I o 10) (g10b : tn (I o 10) ≤ 20) : ow_Cf yX6_copyFrom cX6_copyFrom 3 none 2 [.ref a, .ref o] (S, I, V, z) none (S, K_copyFrom a o I, V, z) := by
  refine ow_Cf.of rfl (Nat.le_of_ble_eq_true rfl) (fun X K E F hk => ?_)
  have E : ow_E X RX6 cX6_copyFrom 3 (ow_rm 2 0 0) := E
  refine or_lv [(0, .ref a), (1, .ref o)] rfl ?_
  have L108 : ∀ (n : Nat) (I : ow_I) (i : Nat) (h10 : 0 ≤ I a 10) (h10b : tn (I a 10) ≤ 20) (hi : i ≤ 20) (hm : 20 - i < n) (hk : K none (S, K_copyFrom_L108 a o n I i, V, z)), ow_W X 0 0 (S, I, V, z) 108 [(0, .ref a), (1, .ref o), (2, .int (nI i))] [] := by
    intro n
    induction n with
    | zero => intro I i h10 h10b hi hm; omega
    | succ n ih =>
      intro I i h10 h10b hi hm hk
      dsimp only [K_copyFrom_L108] at hk
      refine or_iload_n E rfl dX6_copyFrom_108 ?_
      refine or_aload_n E rfl dX6_copyFrom_109 ?_
      refine ot_getI E fl_6_77 dX6_copyFrom_110 h_a.1 rfl ?_
      refine or_top (nI_tn h10).symm ?_
      refine or_icmp_geN 137 E dX6_copyFrom_113 rfl (by omega) (by omega) (fun q113 => ?_) (fun q113 => ?_)
      · replace hk := ite_p (P := fun r : ow_I => K none (S, r, V, z)) q113 hk
        refine or_aload_n E rfl dX6_copyFrom_137 ?_
        refine ot_getC E fl_6_37 dX6_copyFrom_138 h_o.1 rfl ?_
        refine or_iconst (v := nI 0) E rfl dX6_copyFrom_141 ?_
        refine or_aload_n E rfl dX6_copyFrom_142 ?_
        refine ot_getC E fl_6_37 dX6_copyFrom_143 h_a.1 rfl ?_
        refine or_iconst (v := nI 0) E rfl dX6_copyFrom_146 ?_
        refine or_bipush (v := nI 20) E rfl dX6_copyFrom_147 ?_
        refine or_acopy (n := 20) E lc_6_83 dX6_copyFrom_149 h_o.2.2.2.2.1 h_a.2.2.2.2.1 (fun _ _ => rfl) (fun _ _ => rfl) (by decide) (by decide) ⟨Nat.le_of_ble_eq_true rfl, Nat.le_of_ble_eq_true rfl⟩ (by decide) ?_
        obtain ⟨I10, hI10⟩ : ∃ y_ : ow_I, y_ = ow_cp I (o + 4) (a + 4) 20 := ⟨_, rfl⟩
        replace hk := lt_k (P := fun r : ow_I => K none (S, r, V, z)) hI10 hk
        refine or_nmI hI10 ?_
        refine or_aload_n E rfl dX6_copyFrom_152 ?_
        refine or_aload_n E rfl dX6_copyFrom_153 ?_
        refine ot_getI E fl_6_89 dX6_copyFrom_154 h_o.1 rfl ?_
        refine ot_putI E fl_6_89 fw_6_12 dX6_copyFrom_157 h_a.1 rfl ?_
        obtain ⟨I11, hI11⟩ : ∃ y_ : ow_I, y_ = ow_u I10 a 12 (I10 o 12) := ⟨_, rfl⟩
        replace hk := lt_k (P := fun r : ow_I => K none (S, r, V, z)) hI11 hk
        refine or_nmI hI11 ?_
        refine or_aload_n E rfl dX6_copyFrom_160 ?_
        refine or_aload_n E rfl dX6_copyFrom_161 ?_
        refine ot_getI E fl_6_41 dX6_copyFrom_162 h_o.1 rfl ?_
        refine ot_putI E fl_6_41 fw_6_13 dX6_copyFrom_165 h_a.1 rfl ?_
        obtain ⟨I12, hI12⟩ : ∃ y_ : ow_I, y_ = ow_u I11 a 13 (I11 o 13) := ⟨_, rfl⟩
        replace hk := lt_k (P := fun r : ow_I => K none (S, r, V, z)) hI12 hk
        refine or_nmI hI12 ?_
        refine or_aload_n E rfl dX6_copyFrom_168 ?_
        refine or_aload_n E rfl dX6_copyFrom_169 ?_
        refine ot_getI E fl_6_44 dX6_copyFrom_170 h_o.1 rfl ?_
        refine ot_putI E fl_6_44 fw_6_14 dX6_copyFrom_173 h_a.1 rfl ?_
        obtain ⟨I13, hI13⟩ : ∃ y_ : ow_I, y_ = ow_u I12 a 14 (I12 o 14) := ⟨_, rfl⟩
        replace hk := lt_k (P := fun r : ow_I => K none (S, r, V, z)) hI13 hk
        refine or_nmI hI13 ?_
        refine or_aload_n E rfl dX6_copyFrom_176 ?_
        refine or_aload_n E rfl dX6_copyFrom_177 ?_
        refine ot_getI E fl_6_47 dX6_copyFrom_178 h_o.1 rfl ?_
        refine ot_putI E fl_6_47 fw_6_15 dX6_copyFrom_181 h_a.1 rfl ?_
        obtain ⟨I14, hI14⟩ : ∃ y_ : ow_I, y_ = ow_u I13 a 15 (I13 o 15) := ⟨_, rfl⟩
        replace hk := lt_k (P := fun r : ow_I => K none (S, r, V, z)) hI14 hk
        refine or_nmI hI14 ?_
        refine or_aload_n E rfl dX6_copyFrom_184 ?_
        refine or_aload_n E rfl dX6_copyFrom_185 ?_
        refine ot_getI E fl_6_50 dX6_copyFrom_186 h_o.1 rfl ?_
        refine ot_putI E fl_6_50 fw_6_16 dX6_copyFrom_189 h_a.1 rfl ?_
        obtain ⟨I15, hI15⟩ : ∃ y_ : ow_I, y_ = ow_u I14 a 16 (I14 o 16) := ⟨_, rfl⟩
        replace hk := lt_k (P := fun r : ow_I => K none (S, r, V, z)) hI15 hk
        refine or_nmI hI15 ?_
        exact or_vret E F dX6_copyFrom_192 (Nat.le_refl _) (Nat.le_refl _) hk
      · replace hk := ite_n (P := fun r : ow_I => K none (S, r, V, z)) q113 hk
        refine or_aload_n E rfl dX6_copyFrom_116 ?_
        refine ot_getC E fl_6_33 dX6_copyFrom_117 h_a.1 rfl ?_
        refine or_iload_n E rfl dX6_copyFrom_120 ?_
        refine ot_aald (j := i) E dX6_copyFrom_121 h_a.2.2.2.1 rfl rfl (by omega) (Nat.le_of_ble_eq_true rfl) ?_
        refine or_aload_n E rfl dX6_copyFrom_122 ?_
        refine ot_getC E fl_6_33 dX6_copyFrom_123 h_o.1 rfl ?_
        refine or_iload_n E rfl dX6_copyFrom_126 ?_
        refine ot_aald (j := i) E dX6_copyFrom_127 h_o.2.2.2.1 rfl rfl (by omega) (Nat.le_of_ble_eq_true rfl) ?_
        refine or_cV1v (cB_copyFrom  (h_a.2.2.2.2.2.2 i (by omega)) (h_o.2.2.2.2.2.2 i (by omega)) ) E lk_6_80 dX6_copyFrom_128 (h_a.2.2.2.2.2.2 i (by omega)).1 rfl rfl (by decide) (by decide) ⟨Nat.le_refl _, Nat.le_refl _⟩ (Nat.le_of_ble_eq_true rfl) ?_
        obtain ⟨I16, hI16⟩ : ∃ y_ : ow_I, y_ = B_copyFrom (a + 11 + 2 * i) (o + 11 + 2 * i) I := ⟨_, rfl⟩
        replace hk := lt_k (P := fun r : ow_I => K none (S, r, V, z)) hI16 hk
        refine or_nmI hI16 ?_
        refine or_iincN (c := 1) E dX6_copyFrom_131 rfl rfl (by decide) ?_
        refine or_goto 108 E dX6_copyFrom_134 rfl ?_
        refine or_lv _ ?_ (ih _ _ (by subst hI16; rw [rr_bcp (by omega) (by omega)]; exact h10) (by subst hI16; rw [rr_bcp (by omega) (by omega)]; exact h10b) (by subst hI16; omega) (by omega) hk)
        rfl
  have L69 : ∀ (n : Nat) (I : ow_I) (i : Nat) (h8 : 0 ≤ I a 8) (h8b : tn (I a 8) ≤ 6) (g10 : 0 ≤ I o 10) (g10b : tn (I o 10) ≤ 20) (hi : i ≤ 6) (hm : 6 - i < n) (hk : K none (S, K_copyFrom_L69 a o n I i, V, z)), ow_W X 0 0 (S, I, V, z) 69 [(0, .ref a), (1, .ref o), (2, .int (nI i))] [] := by
    intro n
    induction n with
    | zero => intro I i h8 h8b g10 g10b hi hm; omega
    | succ n ih =>
      intro I i h8 h8b g10 g10b hi hm hk
      dsimp only [K_copyFrom_L69] at hk
      refine or_iload_n E rfl dX6_copyFrom_69 ?_
      refine or_aload_n E rfl dX6_copyFrom_70 ?_
      refine ot_getI E fl_6_71 dX6_copyFrom_71 h_a.1 rfl ?_
      refine or_top (nI_tn h8).symm ?_
      refine or_icmp_geN 98 E dX6_copyFrom_74 rfl (by omega) (by omega) (fun q74 => ?_) (fun q74 => ?_)
      · replace hk := ite_p (P := fun r : ow_I => K none (S, r, V, z)) q74 hk
        refine or_aload_n E rfl dX6_copyFrom_98 ?_
        refine or_aload_n E rfl dX6_copyFrom_99 ?_
        refine ot_getI E fl_6_77 dX6_copyFrom_100 h_o.1 rfl ?_
        refine ot_putI E fl_6_77 fw_6_10 dX6_copyFrom_103 h_a.1 rfl ?_
        obtain ⟨I9, hI9⟩ : ∃ y_ : ow_I, y_ = ow_u I a 10 (I o 10) := ⟨_, rfl⟩
        replace hk := lt_k (P := fun r : ow_I => K none (S, r, V, z)) hI9 hk
        refine or_nmI hI9 ?_
        refine or_iconst (v := nI 0) E rfl dX6_copyFrom_106 ?_
        refine or_istore_n E dX6_copyFrom_107 (by decide) ?_
        refine or_lv _ ?_ (L108 21 _ _ (by subst hI9; rw [ow_u_s]; exact g10) (by subst hI9; rw [ow_u_s]; exact g10b) (by decide) (by decide) hk)
        rfl
      · replace hk := ite_n (P := fun r : ow_I => K none (S, r, V, z)) q74 hk
        refine or_aload_n E rfl dX6_copyFrom_77 ?_
        refine ot_getC E fl_6_27 dX6_copyFrom_78 h_a.1 rfl ?_
        refine or_iload_n E rfl dX6_copyFrom_81 ?_
        refine ot_aald (j := i) E dX6_copyFrom_82 h_a.2.2.1 rfl rfl (by omega) (Nat.le_of_ble_eq_true rfl) ?_
        refine or_aload_n E rfl dX6_copyFrom_83 ?_
        refine ot_getC E fl_6_27 dX6_copyFrom_84 h_o.1 rfl ?_
        refine or_iload_n E rfl dX6_copyFrom_87 ?_
        refine ot_aald (j := i) E dX6_copyFrom_88 h_o.2.2.1 rfl rfl (by omega) (Nat.le_of_ble_eq_true rfl) ?_
        refine or_cV1v (cY_copyFrom  (h_a.2.2.2.2.2.1 i (by omega)) (h_o.2.2.2.2.2.1 i (by omega)) ) E lk_6_74 dX6_copyFrom_89 (h_a.2.2.2.2.2.1 i (by omega)) rfl rfl (by decide) (by decide) ⟨Nat.le_refl _, Nat.le_refl _⟩ (Nat.le_of_ble_eq_true rfl) ?_
        obtain ⟨I17, hI17⟩ : ∃ y_ : ow_I, y_ = Y_copyFrom (a + 5 + i) (o + 5 + i) I := ⟨_, rfl⟩
        replace hk := lt_k (P := fun r : ow_I => K none (S, r, V, z)) hI17 hk
        refine or_nmI hI17 ?_
        refine or_iincN (c := 1) E dX6_copyFrom_92 rfl rfl (by decide) ?_
        refine or_goto 69 E dX6_copyFrom_95 rfl ?_
        refine or_lv _ ?_ (ih _ _ (by subst hI17; rw [rr_ycp (by omega)]; exact h8) (by subst hI17; rw [rr_ycp (by omega)]; exact h8b) (by subst hI17; rw [rr_ycp (by omega)]; exact g10) (by subst hI17; rw [rr_ycp (by omega)]; exact g10b) (by subst hI17; omega) (by omega) hk)
        rfl
  dsimp only [K_copyFrom] at hk
  refine or_aload_n E rfl dX6_copyFrom_0 ?_
  refine ot_getC E fl_6_12 dX6_copyFrom_1 h_a.1 rfl ?_
  refine or_aload_n E rfl dX6_copyFrom_4 ?_
  refine ot_getC E fl_6_12 dX6_copyFrom_5 h_o.1 rfl ?_
  refine or_cV1v (cT_copyFrom  h_a.2.1 h_o.2.1 ) E lk_6_55 dX6_copyFrom_8 h_a.2.1 rfl rfl (by decide) (by decide) ⟨Nat.le_refl _, Nat.le_refl _⟩ (Nat.le_of_ble_eq_true rfl) ?_
  obtain ⟨I1, hI1⟩ : ∃ y_ : ow_I, y_ = T_copyFrom (a + 1) (o + 1) I := ⟨_, rfl⟩
  replace hk := lt_k (P := fun r : ow_I => K none (S, r, V, z)) hI1 hk
  refine or_nmI hI1 ?_
  refine or_aload_n E rfl dX6_copyFrom_11 ?_
  refine or_aload_n E rfl dX6_copyFrom_12 ?_
  refine ot_getI E fl_6_18 dX6_copyFrom_13 h_o.1 rfl ?_
  refine ot_putI E fl_6_18 fw_6_1 dX6_copyFrom_16 h_a.1 rfl ?_
  obtain ⟨I2, hI2⟩ : ∃ y_ : ow_I, y_ = ow_u I1 a 1 (I1 o 1) := ⟨_, rfl⟩
  replace hk := lt_k (P := fun r : ow_I => K none (S, r, V, z)) hI2 hk
  refine or_nmI hI2 ?_
  refine or_aload_n E rfl dX6_copyFrom_19 ?_
  refine or_aload_n E rfl dX6_copyFrom_20 ?_
  refine ot_getI E fl_6_22 dX6_copyFrom_21 h_o.1 rfl ?_
  refine ot_putI E fl_6_22 fw_6_2 dX6_copyFrom_24 h_a.1 rfl ?_
  obtain ⟨I3, hI3⟩ : ∃ y_ : ow_I, y_ = ow_u I2 a 2 (I2 o 2) := ⟨_, rfl⟩
  replace hk := lt_k (P := fun r : ow_I => K none (S, r, V, z)) hI3 hk
  refine or_nmI hI3 ?_
  refine or_aload_n E rfl dX6_copyFrom_27 ?_
  refine or_aload_n E rfl dX6_copyFrom_28 ?_
  refine ot_getI E fl_6_59 dX6_copyFrom_29 h_o.1 rfl ?_
  refine ot_putI E fl_6_59 fw_6_3 dX6_copyFrom_32 h_a.1 rfl ?_
  obtain ⟨I4, hI4⟩ : ∃ y_ : ow_I, y_ = ow_u I3 a 3 (I3 o 3) := ⟨_, rfl⟩
  replace hk := lt_k (P := fun r : ow_I => K none (S, r, V, z)) hI4 hk
  refine or_nmI hI4 ?_
  refine or_aload_n E rfl dX6_copyFrom_35 ?_
  refine or_aload_n E rfl dX6_copyFrom_36 ?_
  refine ot_getI E fl_6_62 dX6_copyFrom_37 h_o.1 rfl ?_
  refine ot_putI E fl_6_62 fw_6_4 dX6_copyFrom_40 h_a.1 rfl ?_
  obtain ⟨I5, hI5⟩ : ∃ y_ : ow_I, y_ = ow_u I4 a 4 (I4 o 4) := ⟨_, rfl⟩
  replace hk := lt_k (P := fun r : ow_I => K none (S, r, V, z)) hI5 hk
  refine or_nmI hI5 ?_
  refine or_aload_n E rfl dX6_copyFrom_43 ?_
  refine or_aload_n E rfl dX6_copyFrom_44 ?_
  refine ot_getI E fl_6_65 dX6_copyFrom_45 h_o.1 rfl ?_
  refine ot_putI E fl_6_65 fw_6_5 dX6_copyFrom_48 h_a.1 rfl ?_
  obtain ⟨I6, hI6⟩ : ∃ y_ : ow_I, y_ = ow_u I5 a 5 (I5 o 5) := ⟨_, rfl⟩
  replace hk := lt_k (P := fun r : ow_I => K none (S, r, V, z)) hI6 hk
  refine or_nmI hI6 ?_
  refine or_aload_n E rfl dX6_copyFrom_51 ?_
  refine or_aload_n E rfl dX6_copyFrom_52 ?_
  refine ot_getI E fl_6_68 dX6_copyFrom_53 h_o.1 rfl ?_
  refine ot_putI E fl_6_68 fw_6_6 dX6_copyFrom_56 h_a.1 rfl ?_
  obtain ⟨I7, hI7⟩ : ∃ y_ : ow_I, y_ = ow_u I6 a 6 (I6 o 6) := ⟨_, rfl⟩
  replace hk := lt_k (P := fun r : ow_I => K none (S, r, V, z)) hI7 hk
  refine or_nmI hI7 ?_
  refine or_aload_n E rfl dX6_copyFrom_59 ?_
  refine or_aload_n E rfl dX6_copyFrom_60 ?_
  refine ot_getI E fl_6_71 dX6_copyFrom_61 h_o.1 rfl ?_
  refine ot_putI E fl_6_71 fw_6_8 dX6_copyFrom_64 h_a.1 rfl ?_
  obtain ⟨I8, hI8⟩ : ∃ y_ : ow_I, y_ = ow_u I7 a 8 (I7 o 8) := ⟨_, rfl⟩
  replace hk := lt_k (P := fun r : ow_I => K none (S, r, V, z)) hI8 hk
  refine or_nmI hI8 ?_
  refine or_iconst (v := nI 0) E rfl dX6_copyFrom_67 ?_
  refine or_istore_n E dX6_copyFrom_68 (by decide) ?_
  refine or_lv _ ?_ (L69 7 _ _ (by subst hI8 hI7 hI6 hI5 hI4 hI3 hI2 hI1; simp (disch := omega) only [ow_u_s, rr_u, rr_tcp]; exact g8) (by subst hI8 hI7 hI6 hI5 hI4 hI3 hI2 hI1; simp (disch := omega) only [ow_u_s, rr_u, rr_tcp]; exact g8b) (by subst hI8 hI7 hI6 hI5 hI4 hI3 hI2 hI1; simp (disch := omega) only [ow_u_s, rr_u, rr_tcp]; exact g10) (by subst hI8 hI7 hI6 hI5 hI4 hI3 hI2 hI1; simp (disch := omega) only [ow_u_s, rr_u, rr_tcp]; exact g10b) (by decide) (by decide) hk)
  rfl
