theorem lk_11_132 : ow_lv RX11 132 yX11_thinker cX11_thinker 3 (some .int) 0 := ⟨ow_T_in 1957 (by decide +kernel) (by decide +kernel), ow_T_in 1959 (by decide +kernel) (by decide +kernel), ow_T_sel 99 (by decide +kernel) (by decide +kernel), ow_T_in 19 (by decide +kernel) (by decide +kernel), ow_T_in 1960 (by decide +kernel) (by decide +kernel), ⟨by decide +kernel, by decide +kernel, by decide +kernel⟩⟩
theorem lk_11_135 : ow_lv RX11 135 yX11_nodNow cX11_nodNow 2 (some .int) 1 := ⟨ow_T_in 1873 (by decide +kernel) (by decide +kernel), ow_T_in 1875 (by decide +kernel) (by decide +kernel), ow_T_sel 79 (by decide +kernel) (by decide +kernel), ow_T_in 19 (by decide +kernel) (by decide +kernel), ow_T_in 1876 (by decide +kernel) (by decide +kernel), ⟨by decide +kernel, by decide +kernel, by decide +kernel⟩⟩
theorem lk_11_138 : ow_lv RX11 138 yX11_closeBarrel cX11_closeBarrel 3 none 0 := ⟨ow_T_in 1937 (by decide +kernel) (by decide +kernel), ow_T_in 1939 (by decide +kernel) (by decide +kernel), ow_T_sel 94 (by decide +kernel) (by decide +kernel), ow_T_in 19 (by decide +kernel) (by decide +kernel), ow_T_in 1940 (by decide +kernel) (by decide +kernel), ⟨by decide +kernel, by decide +kernel, by decide +kernel⟩⟩
theorem lk_11_141 : ow_lv RX11 141 yX11_blowsIn cX11_blowsIn 2 (some .boolean) 1 := ⟨ow_T_in 1933 (by decide +kernel) (by decide +kernel), ow_T_in 1935 (by decide +kernel) (by decide +kernel), ow_T_sel 93 (by decide +kernel) (by decide +kernel), ow_T_in 19 (by decide +kernel) (by decide +kernel), ow_T_in 1936 (by decide +kernel) (by decide +kernel), ⟨by decide +kernel, by decide +kernel, by decide +kernel⟩⟩
theorem lk_11_144 : ow_lv RX11 144 yX11_openFirst cX11_openFirst 2 none 0 := ⟨ow_T_in 1949 (by decide +kernel) (by decide +kernel), ow_T_in 1951 (by decide +kernel) (by decide +kernel), ow_T_sel 97 (by decide +kernel) (by decide +kernel), ow_T_in 19 (by decide +kernel) (by decide +kernel), ow_T_in 1952 (by decide +kernel) (by decide +kernel), ⟨by decide +kernel, by decide +kernel, by decide +kernel⟩⟩
theorem lk_11_147 : ow_lv RX11 147 yX11_think cX11_think 2 none 0 := ⟨ow_T_in 1953 (by decide +kernel) (by decide +kernel), ow_T_in 1955 (by decide +kernel) (by decide +kernel), ow_T_sel 98 (by decide +kernel) (by decide +kernel), ow_T_in 19 (by decide +kernel) (by decide +kernel), ow_T_in 1956 (by decide +kernel) (by decide +kernel), ⟨by decide +kernel, by decide +kernel, by decide +kernel⟩⟩
def M_think (m : Nat) (I : ow_I) : ow_I :=
  if M_thinker m I < 0 then lt (ow_u I (m + 1) 11 (I (m + 1) 11 + (nI 1))) (fun (I1 : ow_I) => if I1 (m + 1) 11 < I1 (m + 1) 2 then I1 else lt (M_closeBarrel m I1) (fun (I2 : ow_I) => I2)) else lt (M_nodNow m (tn (M_thinker m I)) I) (fun (r3 : Int32 × ow_I) => r3.2)
set_option maxRecDepth 100000 in
set_option maxHeartbeats 400000 in
theorem cM_think {S : Nat → Option ow_Sh} {I : ow_I} {V : Nat → Nat → Value} {z : Nat} {m : Nat} (h_m : md_S S m) (hv : md_V (I (m + 1))) (h8 : 0 ≤ I (m + 1) 8) : ow_Cf yX11_think cX11_think 2 none 5 [.ref m] (S, I, V, z) none (S, M_think m I, V, z) := by
  refine ow_Cf.of rfl (Nat.le_of_ble_eq_true rfl) (fun X K E F hk => ?_)
  have E : ow_E X RX11 cX11_think 2 (ow_rm 5 0 0) := E
  refine or_lv [(0, .ref m)] rfl ?_
  dsimp only [M_think] at hk
  refine or_aload_n E rfl dX11_think_0 ?_
  refine or_cV0r (cM_thinker  h_m hv) E lk_11_132 dX11_think_1 h_m.1 rfl rfl (by decide) (by decide) ⟨Nat.le_refl _, Nat.le_refl _⟩ (Nat.le_of_ble_eq_true rfl) ?_
  refine or_istore_n E dX11_think_4 (by decide) ?_
  refine or_iload_n E rfl dX11_think_5 ?_
  refine or_if_lt 16 E dX11_think_6 rfl (fun q6 => ?_) (fun q6 => ?_)
  · replace hk := ite_p (P := fun r : ow_I => K none (S, r, V, z)) q6 hk
    refine or_aload_n E rfl dX11_think_16 ?_
    refine ot_getC E fl_11_7 dX11_think_17 h_m.1 rfl ?_
    refine or_bipush (v := nI 11) E rfl dX11_think_20 ?_
    refine or_dup2 E rfl rfl dX11_think_22 ?_
    refine ot_iald (j := 11) E dX11_think_23 h_m.2.1 rfl rfl (by omega) (Nat.le_of_ble_eq_true rfl) ?_
    refine or_iconst (v := nI 1) E rfl dX11_think_24 ?_
    refine or_iadd E dX11_think_25 ?_
    refine ot_iast (j := 11) E dX11_think_26 h_m.2.1 rfl rfl (by omega) (Nat.le_of_ble_eq_true rfl) ?_
    obtain ⟨I1, hI1⟩ : ∃ y_ : ow_I, y_ = ow_u I (m + 1) 11 (I (m + 1) 11 + (nI 1)) := ⟨_, rfl⟩
    replace hk := lt_k (P := fun r : ow_I => K none (S, r, V, z)) hI1 hk
    refine or_nmI hI1 ?_
    refine or_aload_n E rfl dX11_think_27 ?_
    refine ot_getC E fl_11_7 dX11_think_28 h_m.1 rfl ?_
    refine or_bipush (v := nI 11) E rfl dX11_think_31 ?_
    refine ot_iald (j := 11) E dX11_think_33 h_m.2.1 rfl rfl (by omega) (Nat.le_of_ble_eq_true rfl) ?_
    refine or_aload_n E rfl dX11_think_34 ?_
    refine ot_getC E fl_11_7 dX11_think_35 h_m.1 rfl ?_
    refine or_iconst (v := nI 2) E rfl dX11_think_38 ?_
    refine ot_iald (j := 2) E dX11_think_39 h_m.2.1 rfl rfl (by omega) (Nat.le_of_ble_eq_true rfl) ?_
    refine or_icmp_lt 47 E dX11_think_40 rfl (fun q40 => ?_) (fun q40 => ?_)
    · replace hk := ite_p (P := fun r : ow_I => K none (S, r, V, z)) q40 hk
      exact or_vret E F dX11_think_47 (Nat.le_refl _) (Nat.le_refl _) hk
    · replace hk := ite_n (P := fun r : ow_I => K none (S, r, V, z)) q40 hk
      refine or_aload_n E rfl dX11_think_43 ?_
      refine or_cV0v (cM_closeBarrel  h_m (by subst hI1; simp (disch := omega) only [ow_u_k]; exact h8) (by subst hI1; simp (disch := omega) only [ow_u_k]; exact mdV_8 hv h8) (by subst hI1; simp (disch := omega) only [ow_u_k]; exact mdV_10 hv) (by subst hI1; simp (disch := omega) only [ow_u_k]; exact hv.2.2.2.2.2.1.1) (by subst hI1; simp (disch := omega) only [ow_u_k]; exact mdV_q hv h8)) E lk_11_138 dX11_think_44 h_m.1 rfl rfl (by decide) (by decide) ⟨Nat.le_refl _, Nat.le_refl _⟩ (Nat.le_of_ble_eq_true rfl) ?_
      obtain ⟨I2, hI2⟩ : ∃ y_ : ow_I, y_ = M_closeBarrel m I1 := ⟨_, rfl⟩
      replace hk := lt_k (P := fun r : ow_I => K none (S, r, V, z)) hI2 hk
      refine or_nmI hI2 ?_
      exact or_vret E F dX11_think_47 (Nat.le_refl _) (Nat.le_refl _) hk
  · replace hk := ite_n (P := fun r : ow_I => K none (S, r, V, z)) q6 hk
    refine or_aload_n E rfl dX11_think_9 ?_
    refine or_iload_n E rfl dX11_think_10 ?_
    refine or_top (nI_tn (i_nlt q6)).symm ?_
    refine or_cV1r (cM_nodNow  h_m (by have := M_thinker_rng hv (i_nlt q6); have := hv.2.1; omega) (fun _ => ⟨h8, mdV_8 hv h8⟩)) E lk_11_135 dX11_think_11 h_m.1 rfl rfl (by decide) (by decide) ⟨Nat.le_refl _, Nat.le_refl _⟩ (Nat.le_of_ble_eq_true rfl) ?_
    obtain ⟨r3, hr3⟩ : ∃ y_ : Int32 × ow_I, y_ = M_nodNow m (tn (M_thinker m I)) I := ⟨_, rfl⟩
    replace hk := lt_k (P := fun r : ow_I => K none (S, r, V, z)) hr3 hk
    refine or_nmJ hr3 ?_
    refine or_pop E rfl dX11_think_14 ?_
    exact or_vret E F dX11_think_15 (Nat.le_refl _) (Nat.le_refl _) hk
def M_passOne (m : Nat) (I : ow_I) : ow_I :=
  lt (ow_u I (m + 1) 5 (I (m + 1) 5 + (nI 1))) (fun (I1 : ow_I) => if M_blowsIn m (I1 (m + 1) 5) I1 then if I1 (m + 1) 8 < 0 then if M_isOpenNow m I1 then if 0 ≤ I1 (m + 1) 8 then lt (M_think m I1) (fun (I4 : ow_I) => I4) else lt (M_openFirst m I1) (fun (I5 : ow_I) => I5) else I1 else lt (M_closeBarrel m I1) (fun (I6 : ow_I) => if M_isOpenNow m I6 then if 0 ≤ I6 (m + 1) 8 then lt (M_think m I6) (fun (I7 : ow_I) => I7) else lt (M_openFirst m I6) (fun (I8 : ow_I) => I8) else I6) else if M_isOpenNow m I1 then if 0 ≤ I1 (m + 1) 8 then lt (M_think m I1) (fun (I2 : ow_I) => I2) else lt (M_openFirst m I1) (fun (I3 : ow_I) => I3) else I1)
set_option maxRecDepth 100000 in
set_option maxHeartbeats 400000 in
theorem cM_passOne {S : Nat → Option ow_Sh} {I : ow_I} {V : Nat → Nat → Value} {z : Nat} {m : Nat} (h_m : md_S S m) (hv : md_V (I (m + 1))) : ow_Cf yX11_passOne cX11_passOne 1 none 6 [.ref m] (S, I, V, z) none (S, M_passOne m I, V, z) := by
  refine ow_Cf.of rfl (Nat.le_of_ble_eq_true rfl) (fun X K E F hk => ?_)
  have E : ow_E X RX11 cX11_passOne 1 (ow_rm 6 0 0) := E
  refine or_lv [(0, .ref m)] rfl ?_
  dsimp only [M_passOne] at hk
  refine or_aload_n E rfl dX11_passOne_0 ?_
  refine ot_getC E fl_11_7 dX11_passOne_1 h_m.1 rfl ?_
  refine or_iconst (v := nI 5) E rfl dX11_passOne_4 ?_
  refine or_dup2 E rfl rfl dX11_passOne_5 ?_
  refine ot_iald (j := 5) E dX11_passOne_6 h_m.2.1 rfl rfl (by omega) (Nat.le_of_ble_eq_true rfl) ?_
  refine or_iconst (v := nI 1) E rfl dX11_passOne_7 ?_
  refine or_iadd E dX11_passOne_8 ?_
  refine ot_iast (j := 5) E dX11_passOne_9 h_m.2.1 rfl rfl (by omega) (Nat.le_of_ble_eq_true rfl) ?_
  obtain ⟨I1, hI1⟩ : ∃ y_ : ow_I, y_ = ow_u I (m + 1) 5 (I (m + 1) 5 + (nI 1)) := ⟨_, rfl⟩
  replace hk := lt_k (P := fun r : ow_I => K none (S, r, V, z)) hI1 hk
  refine or_nmI hI1 ?_
  refine or_aload_n E rfl dX11_passOne_10 ?_
  refine or_aload_n E rfl dX11_passOne_11 ?_
  refine ot_getC E fl_11_7 dX11_passOne_12 h_m.1 rfl ?_
  refine or_iconst (v := nI 5) E rfl dX11_passOne_15 ?_
  refine ot_iald (j := 5) E dX11_passOne_16 h_m.2.1 rfl rfl (by omega) (Nat.le_of_ble_eq_true rfl) ?_
  refine or_cV1r (cM_blowsIn  h_m (by subst hI1; exact (V_row hv _ (Or.inl rfl)).1)) E lk_11_141 dX11_passOne_17 h_m.1 rfl rfl (by decide) (by decide) ⟨Nat.le_refl _, Nat.le_refl _⟩ (Nat.le_of_ble_eq_true rfl) ?_
  refine or_if_eqZ 37 E dX11_passOne_20 rfl (fun q20 => ?_) (fun q20 => ?_)
  · replace hk := ite_n (P := fun r : ow_I => K none (S, r, V, z)) (bz_neg q20) hk
    refine or_aload_n E rfl dX11_passOne_37 ?_
    refine or_cV0r (cM_isOpenNow  h_m (by subst hI1; exact (V_row hv _ (Or.inl rfl)).1)) E lk_11_105 dX11_passOne_38 h_m.1 rfl rfl (by decide) (by decide) ⟨Nat.le_refl _, Nat.le_refl _⟩ (Nat.le_of_ble_eq_true rfl) ?_
    refine or_if_neZ 45 E dX11_passOne_41 rfl (fun q41 => ?_) (fun q41 => ?_)
    · replace hk := ite_p (P := fun r : ow_I => K none (S, r, V, z)) q41 hk
      refine or_aload_n E rfl dX11_passOne_45 ?_
      refine ot_getC E fl_11_7 dX11_passOne_46 h_m.1 rfl ?_
      refine or_bipush (v := nI 8) E rfl dX11_passOne_49 ?_
      refine ot_iald (j := 8) E dX11_passOne_51 h_m.2.1 rfl rfl (by omega) (Nat.le_of_ble_eq_true rfl) ?_
      refine or_if_ge 62 E dX11_passOne_52 rfl (fun q52 => ?_) (fun q52 => ?_)
      · replace hk := ite_p (P := fun r : ow_I => K none (S, r, V, z)) q52 hk
        refine or_aload_n E rfl dX11_passOne_62 ?_
        refine or_cV0v (cM_think  h_m (by subst hI1; exact (V_row hv _ (Or.inl rfl))) (by subst hI1; exact q52)) E lk_11_147 dX11_passOne_63 h_m.1 rfl rfl (by decide) (by decide) ⟨Nat.le_refl _, Nat.le_refl _⟩ (Nat.le_of_ble_eq_true rfl) ?_
        obtain ⟨I2, hI2⟩ : ∃ y_ : ow_I, y_ = M_think m I1 := ⟨_, rfl⟩
        replace hk := lt_k (P := fun r : ow_I => K none (S, r, V, z)) hI2 hk
        refine or_nmI hI2 ?_
        exact or_vret E F dX11_passOne_66 (Nat.le_refl _) (Nat.le_refl _) hk
      · replace hk := ite_n (P := fun r : ow_I => K none (S, r, V, z)) q52 hk
        refine or_aload_n E rfl dX11_passOne_55 ?_
        refine or_cV0v (cM_openFirst  h_m (by subst hI1; exact (V_row hv _ (Or.inl rfl)).2.2.2.2.2.1.1) (by subst hI1; exact (V_row hv _ (Or.inl rfl)).2.2.2.2.2.1.2) (by subst hI1; exact (mdV_q0 (V_row hv _ (Or.inl rfl))))) E lk_11_144 dX11_passOne_56 h_m.1 rfl rfl (by decide) (by decide) ⟨Nat.le_refl _, Nat.le_refl _⟩ (Nat.le_of_ble_eq_true rfl) ?_
        obtain ⟨I3, hI3⟩ : ∃ y_ : ow_I, y_ = M_openFirst m I1 := ⟨_, rfl⟩
        replace hk := lt_k (P := fun r : ow_I => K none (S, r, V, z)) hI3 hk
        refine or_nmI hI3 ?_
        refine or_goto 66 E dX11_passOne_59 rfl ?_
        exact or_vret E F dX11_passOne_66 (Nat.le_refl _) (Nat.le_refl _) hk
    · replace hk := ite_n (P := fun r : ow_I => K none (S, r, V, z)) (bz_neg q41) hk
      exact or_vret E F dX11_passOne_44 (Nat.le_refl _) (Nat.le_refl _) hk
  · replace hk := ite_p (P := fun r : ow_I => K none (S, r, V, z)) q20 hk
    refine or_aload_n E rfl dX11_passOne_23 ?_
    refine ot_getC E fl_11_7 dX11_passOne_24 h_m.1 rfl ?_
    refine or_bipush (v := nI 8) E rfl dX11_passOne_27 ?_
    refine ot_iald (j := 8) E dX11_passOne_29 h_m.2.1 rfl rfl (by omega) (Nat.le_of_ble_eq_true rfl) ?_
    refine or_if_lt 37 E dX11_passOne_30 rfl (fun q30 => ?_) (fun q30 => ?_)
    · replace hk := ite_p (P := fun r : ow_I => K none (S, r, V, z)) q30 hk
      refine or_aload_n E rfl dX11_passOne_37 ?_
      refine or_cV0r (cM_isOpenNow  h_m (by subst hI1; exact (V_row hv _ (Or.inl rfl)).1)) E lk_11_105 dX11_passOne_38 h_m.1 rfl rfl (by decide) (by decide) ⟨Nat.le_refl _, Nat.le_refl _⟩ (Nat.le_of_ble_eq_true rfl) ?_
      refine or_if_neZ 45 E dX11_passOne_41 rfl (fun q41 => ?_) (fun q41 => ?_)
      · replace hk := ite_p (P := fun r : ow_I => K none (S, r, V, z)) q41 hk
        refine or_aload_n E rfl dX11_passOne_45 ?_
        refine ot_getC E fl_11_7 dX11_passOne_46 h_m.1 rfl ?_
        refine or_bipush (v := nI 8) E rfl dX11_passOne_49 ?_
        refine ot_iald (j := 8) E dX11_passOne_51 h_m.2.1 rfl rfl (by omega) (Nat.le_of_ble_eq_true rfl) ?_
        refine or_if_ge 62 E dX11_passOne_52 rfl (fun q52 => ?_) (fun q52 => ?_)
        · replace hk := ite_p (P := fun r : ow_I => K none (S, r, V, z)) q52 hk
          refine or_aload_n E rfl dX11_passOne_62 ?_
          refine or_cV0v (cM_think  h_m (by subst hI1; exact (V_row hv _ (Or.inl rfl))) (by subst hI1; exact q52)) E lk_11_147 dX11_passOne_63 h_m.1 rfl rfl (by decide) (by decide) ⟨Nat.le_refl _, Nat.le_refl _⟩ (Nat.le_of_ble_eq_true rfl) ?_
          obtain ⟨I4, hI4⟩ : ∃ y_ : ow_I, y_ = M_think m I1 := ⟨_, rfl⟩
          replace hk := lt_k (P := fun r : ow_I => K none (S, r, V, z)) hI4 hk
          refine or_nmI hI4 ?_
          exact or_vret E F dX11_passOne_66 (Nat.le_refl _) (Nat.le_refl _) hk
        · replace hk := ite_n (P := fun r : ow_I => K none (S, r, V, z)) q52 hk
          refine or_aload_n E rfl dX11_passOne_55 ?_
          refine or_cV0v (cM_openFirst  h_m (by subst hI1; exact (V_row hv _ (Or.inl rfl)).2.2.2.2.2.1.1) (by subst hI1; exact (V_row hv _ (Or.inl rfl)).2.2.2.2.2.1.2) (by subst hI1; exact (mdV_q0 (V_row hv _ (Or.inl rfl))))) E lk_11_144 dX11_passOne_56 h_m.1 rfl rfl (by decide) (by decide) ⟨Nat.le_refl _, Nat.le_refl _⟩ (Nat.le_of_ble_eq_true rfl) ?_
          obtain ⟨I5, hI5⟩ : ∃ y_ : ow_I, y_ = M_openFirst m I1 := ⟨_, rfl⟩
          replace hk := lt_k (P := fun r : ow_I => K none (S, r, V, z)) hI5 hk
          refine or_nmI hI5 ?_
          refine or_goto 66 E dX11_passOne_59 rfl ?_
          exact or_vret E F dX11_passOne_66 (Nat.le_refl _) (Nat.le_refl _) hk
      · replace hk := ite_n (P := fun r : ow_I => K none (S, r, V, z)) (bz_neg q41) hk
        exact or_vret E F dX11_passOne_44 (Nat.le_refl _) (Nat.le_refl _) hk
    · replace hk := ite_n (P := fun r : ow_I => K none (S, r, V, z)) q30 hk
      refine or_aload_n E rfl dX11_passOne_33 ?_
      refine or_cV0v (cM_closeBarrel  h_m (by subst hI1; exact (i_nlt q30)) (by subst hI1; exact (mdV_8 (V_row hv _ (Or.inl rfl)) (i_nlt q30))) (by subst hI1; exact (mdV_10 (V_row hv _ (Or.inl rfl)))) (by subst hI1; exact (V_row hv _ (Or.inl rfl)).2.2.2.2.2.1.1) (by subst hI1; exact (mdV_q (V_row hv _ (Or.inl rfl)) (i_nlt q30)))) E lk_11_138 dX11_passOne_34 h_m.1 rfl rfl (by decide) (by decide) ⟨Nat.le_refl _, Nat.le_refl _⟩ (Nat.le_of_ble_eq_true rfl) ?_
      obtain ⟨I6, hI6⟩ : ∃ y_ : ow_I, y_ = M_closeBarrel m I1 := ⟨_, rfl⟩
      replace hk := lt_k (P := fun r : ow_I => K none (S, r, V, z)) hI6 hk
      refine or_nmI hI6 ?_
      refine or_aload_n E rfl dX11_passOne_37 ?_
      refine or_cV0r (cM_isOpenNow  h_m (by subst hI6 hI1; exact (V_close (V_row hv _ (Or.inl rfl)) (i_nlt q30)).1)) E lk_11_105 dX11_passOne_38 h_m.1 rfl rfl (by decide) (by decide) ⟨Nat.le_refl _, Nat.le_refl _⟩ (Nat.le_of_ble_eq_true rfl) ?_
      refine or_if_neZ 45 E dX11_passOne_41 rfl (fun q41 => ?_) (fun q41 => ?_)
      · replace hk := ite_p (P := fun r : ow_I => K none (S, r, V, z)) q41 hk
        refine or_aload_n E rfl dX11_passOne_45 ?_
        refine ot_getC E fl_11_7 dX11_passOne_46 h_m.1 rfl ?_
        refine or_bipush (v := nI 8) E rfl dX11_passOne_49 ?_
        refine ot_iald (j := 8) E dX11_passOne_51 h_m.2.1 rfl rfl (by omega) (Nat.le_of_ble_eq_true rfl) ?_
        refine or_if_ge 62 E dX11_passOne_52 rfl (fun q52 => ?_) (fun q52 => ?_)
        · replace hk := ite_p (P := fun r : ow_I => K none (S, r, V, z)) q52 hk
          refine or_aload_n E rfl dX11_passOne_62 ?_
          refine or_cV0v (cM_think  h_m (by subst hI6 hI1; exact (V_close (V_row hv _ (Or.inl rfl)) (i_nlt q30))) (by subst hI6 hI1; exact q52)) E lk_11_147 dX11_passOne_63 h_m.1 rfl rfl (by decide) (by decide) ⟨Nat.le_refl _, Nat.le_refl _⟩ (Nat.le_of_ble_eq_true rfl) ?_
          obtain ⟨I7, hI7⟩ : ∃ y_ : ow_I, y_ = M_think m I6 := ⟨_, rfl⟩
          replace hk := lt_k (P := fun r : ow_I => K none (S, r, V, z)) hI7 hk
          refine or_nmI hI7 ?_
          exact or_vret E F dX11_passOne_66 (Nat.le_refl _) (Nat.le_refl _) hk
        · replace hk := ite_n (P := fun r : ow_I => K none (S, r, V, z)) q52 hk
          refine or_aload_n E rfl dX11_passOne_55 ?_
          refine or_cV0v (cM_openFirst  h_m (by subst hI6 hI1; exact (V_close (V_row hv _ (Or.inl rfl)) (i_nlt q30)).2.2.2.2.2.1.1) (by subst hI6 hI1; exact (V_close (V_row hv _ (Or.inl rfl)) (i_nlt q30)).2.2.2.2.2.1.2) (by subst hI6 hI1; exact (mdV_q0 (V_close (V_row hv _ (Or.inl rfl)) (i_nlt q30))))) E lk_11_144 dX11_passOne_56 h_m.1 rfl rfl (by decide) (by decide) ⟨Nat.le_refl _, Nat.le_refl _⟩ (Nat.le_of_ble_eq_true rfl) ?_
          obtain ⟨I8, hI8⟩ : ∃ y_ : ow_I, y_ = M_openFirst m I6 := ⟨_, rfl⟩
          replace hk := lt_k (P := fun r : ow_I => K none (S, r, V, z)) hI8 hk
          refine or_nmI hI8 ?_
          refine or_goto 66 E dX11_passOne_59 rfl ?_
          exact or_vret E F dX11_passOne_66 (Nat.le_refl _) (Nat.le_refl _) hk
      · replace hk := ite_n (P := fun r : ow_I => K none (S, r, V, z)) (bz_neg q41) hk
        exact or_vret E F dX11_passOne_44 (Nat.le_refl _) (Nat.le_refl _) hk
def M_countState_L4 (m : Nat) (w : Int32) : Nat → ow_I → Nat → Nat → Int32
  | 0, I, _, _ => default
  | n + 1, I, c, e => if tn (I (m + 1) 7) ≤ e then nI c else if M_ofBarrel m e 12 I = w then M_countState_L4 m w n I (c + 1) (e + 1) else M_countState_L4 m w n I c (e + 1)
def M_countState (m : Nat) (w : Int32) (I : ow_I) : Int32 :=
  M_countState_L4 m w 21 I 0 0
set_option maxRecDepth 100000 in
set_option maxHeartbeats 400000 in
theorem cM_countState {S : Nat → Option ow_Sh} {I : ow_I} {V : Nat → Nat → Value} {z : Nat} {m : Nat} {w : Int32} (h_m : md_S S m) (h7 : 0 ≤ I (m + 1) 7) (h7b : tn (I (m + 1) 7) ≤ 20) : ow_Cf yX11_countState cX11_countState 4 (some .int) 1 [.ref m, .int w] (S, I, V, z) (some (.int (M_countState m w I))) (S, I, V, z) := by
  refine ow_Cf.of rfl (Nat.le_of_ble_eq_true rfl) (fun X K E F hk => ?_)
  have E : ow_E X RX11 cX11_countState 4 (ow_rm 1 0 0) := E
  refine or_lv [(0, .ref m), (1, .int w)] rfl ?_
  have L4 : ∀ (n : Nat) (I : ow_I) (c : Nat) (e : Nat) (h7 : 0 ≤ I (m + 1) 7) (h7b : tn (I (m + 1) 7) ≤ 20) (hi : e ≤ 20) (hm : tn (I (m + 1) 7) - e < n) (hk : K (some (.int (M_countState_L4 m w n I c e))) (S, I, V, z)), ow_W X 0 0 (S, I, V, z) 4 [(0, .ref m), (1, .int w), (2, .int (nI c)), (3, .int (nI e))] [] := by
    intro n
    induction n with
    | zero => intro I c e h7 h7b hi hm; omega
    | succ n ih =>
      intro I c e h7 h7b hi hm hk
      dsimp only [M_countState_L4] at hk
      refine or_iload_n E rfl dX11_countState_4 ?_
      refine or_aload_n E rfl dX11_countState_5 ?_
      refine ot_getC E fl_11_7 dX11_countState_6 h_m.1 rfl ?_
      refine or_bipush (v := nI 7) E rfl dX11_countState_9 ?_
      refine ot_iald (j := 7) E dX11_countState_11 h_m.2.1 rfl rfl (by omega) (Nat.le_of_ble_eq_true rfl) ?_
      refine or_top (nI_tn h7).symm ?_
      refine or_icmp_geN 35 E dX11_countState_12 rfl (by omega) (by omega) (fun q12 => ?_) (fun q12 => ?_)
      · replace hk := ite_p (P := fun r : Int32 => K (some (.int (r))) (S, I, V, z)) q12 hk
        refine or_iload_n E rfl dX11_countState_35 ?_
        exact or_iret E F dX11_countState_36 (Nat.le_refl _) (Nat.le_refl _) hk
      · replace hk := ite_n (P := fun r : Int32 => K (some (.int (r))) (S, I, V, z)) q12 hk
        refine or_aload_n E rfl dX11_countState_15 ?_
        refine or_iload_n E rfl dX11_countState_16 ?_
        refine or_bipush (v := nI 12) E rfl dX11_countState_17 ?_
        refine or_cV2r (cM_ofBarrel  h_m (by omega)) E lk_11_66 dX11_countState_19 h_m.1 rfl rfl (by decide) (by decide) ⟨Nat.le_refl _, Nat.le_refl _⟩ (Nat.le_of_ble_eq_true rfl) ?_
        refine or_iload_n E rfl dX11_countState_22 ?_
        refine or_icmp_ne 29 E dX11_countState_23 rfl (fun q23 => ?_) (fun q23 => ?_)
        · replace hk := ite_n (P := fun r : Int32 => K (some (.int (r))) (S, I, V, z)) q23 hk
          refine or_iincN (c := 1) E dX11_countState_29 rfl rfl (by decide) ?_
          refine or_goto 4 E dX11_countState_32 rfl ?_
          refine or_lv _ ?_ (ih _ _ _ h7 h7b (by omega) (by omega) hk)
          rfl
        · replace hk := ite_p (P := fun r : Int32 => K (some (.int (r))) (S, I, V, z)) q23 hk
          refine or_iincN (c := 1) E dX11_countState_26 rfl rfl (by decide) ?_
          refine or_iincN (c := 1) E dX11_countState_29 rfl rfl (by decide) ?_
          refine or_goto 4 E dX11_countState_32 rfl ?_
          refine or_lv _ ?_ (ih _ _ _ h7 h7b (by omega) (by omega) hk)
          rfl
  dsimp only [M_countState] at hk
  refine or_iconst (v := nI 0) E rfl dX11_countState_0 ?_
  refine or_istore_n E dX11_countState_1 (by decide) ?_
  refine or_iconst (v := nI 0) E rfl dX11_countState_2 ?_
  refine or_istore_n E dX11_countState_3 (by decide) ?_
  refine or_lv _ ?_ (L4 21 _ _ _ h7 h7b (by omega) (by omega) hk)
  rfl
