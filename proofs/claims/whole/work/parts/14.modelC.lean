theorem lk_11_116 : ow_lv RX11 116 yX11_reasonAgainst cX11_reasonAgainst 2 (some .int) 1 := ⟨ow_T_in 1849 (by decide +kernel) (by decide +kernel), ow_T_in 1851 (by decide +kernel) (by decide +kernel), ow_T_sel 73 (by decide +kernel) (by decide +kernel), ow_T_in 19 (by decide +kernel) (by decide +kernel), ow_T_in 1852 (by decide +kernel) (by decide +kernel), ⟨by decide +kernel, by decide +kernel, by decide +kernel⟩⟩
theorem lk_11_119 : ow_lv RX11 119 yX11_worthTo cX11_worthTo 5 (some .double) 2 := ⟨ow_T_in 1961 (by decide +kernel) (by decide +kernel), ow_T_in 1963 (by decide +kernel) (by decide +kernel), ow_T_sel 100 (by decide +kernel) (by decide +kernel), ow_T_in 19 (by decide +kernel) (by decide +kernel), ow_T_in 1964 (by decide +kernel) (by decide +kernel), ⟨by decide +kernel, by decide +kernel, by decide +kernel⟩⟩
theorem lk_11_123 : ow_lv RX11 123 yX11_sell cX11_sell 5 none 2 := ⟨ow_T_in 1941 (by decide +kernel) (by decide +kernel), ow_T_in 1943 (by decide +kernel) (by decide +kernel), ow_T_sel 95 (by decide +kernel) (by decide +kernel), ow_T_in 19 (by decide +kernel) (by decide +kernel), ow_T_in 1944 (by decide +kernel) (by decide +kernel), ⟨by decide +kernel, by decide +kernel, by decide +kernel⟩⟩
theorem lk_11_126 : ow_lv RX11 126 yX11_turnBack cX11_turnBack 3 none 1 := ⟨ow_T_in 1945 (by decide +kernel) (by decide +kernel), ow_T_in 1947 (by decide +kernel) (by decide +kernel), ow_T_sel 96 (by decide +kernel) (by decide +kernel), ow_T_in 19 (by decide +kernel) (by decide +kernel), ow_T_in 1948 (by decide +kernel) (by decide +kernel), ⟨by decide +kernel, by decide +kernel, by decide +kernel⟩⟩
theorem lk_11_129 : ow_lv RX11 129 yX11_dequeue cX11_dequeue 4 none 1 := ⟨ow_T_in 1912 (by decide +kernel) (by decide +kernel), ow_T_in 1914 (by decide +kernel) (by decide +kernel), ow_T_sel 88 (by decide +kernel) (by decide +kernel), ow_T_in 19 (by decide +kernel) (by decide +kernel), ow_T_in 1915 (by decide +kernel) (by decide +kernel), ⟨by decide +kernel, by decide +kernel, by decide +kernel⟩⟩
def M_thinker_L14 (m : Nat) : Nat → ow_I → Nat → Int32
  | 0, I, _ => default
  | n + 1, I, i => if tn (I (m + 1) 6) < i then (-1) else if M_reasonAgainst m (tn ((I (m + 1) 10 + (nI i)) - (I (m + 1) 10 + (nI i)) / (I (m + 1) 6) * (I (m + 1) 6))) I = 0 then if Op.cmpValue (FP.dcmp (M_worthTo m (tn ((I (m + 1) 10 + (nI i)) - (I (m + 1) 10 + (nI i)) / (I (m + 1) 6) * (I (m + 1) 6))) (tn (I (m + 1) 8)) I) (FP.i2d (M_bidNext m I))) .l < 0 then M_thinker_L14 m n I (i + 1) else nI (tn ((I (m + 1) 10 + (nI i)) - (I (m + 1) 10 + (nI i)) / (I (m + 1) 6) * (I (m + 1) 6))) else M_thinker_L14 m n I (i + 1)
def M_thinker (m : Nat) (I : ow_I) : Int32 :=
  if 0 ≤ I (m + 1) 8 then M_thinker_L14 m 8 I 1 else (-1)
set_option maxRecDepth 100000 in
set_option maxHeartbeats 400000 in
theorem cM_thinker {S : Nat → Option ow_Sh} {I : ow_I} {V : Nat → Nat → Value} {z : Nat} {m : Nat} (h_m : md_S S m) (hv : md_V (I (m + 1))) : ow_Cf yX11_thinker cX11_thinker 3 (some .int) 4 [.ref m] (S, I, V, z) (some (.int (M_thinker m I))) (S, I, V, z) := by
  refine ow_Cf.of rfl (Nat.le_of_ble_eq_true rfl) (fun X K E F hk => ?_)
  have E : ow_E X RX11 cX11_thinker 3 (ow_rm 4 0 0) := E
  refine or_lv [(0, .ref m)] rfl ?_
  have L14 : ∀ (n : Nat) (I : ow_I) (i : Nat) (hv : md_V (I (m + 1))) (h8 : 0 ≤ I (m + 1) 8) (hi : 1 ≤ i) (hi2 : i ≤ 7) (hm : 7 - i < n) (hk : K (some (.int (M_thinker_L14 m n I i))) (S, I, V, z)), ow_W X 0 0 (S, I, V, z) 14 [(0, .ref m), (1, .int (nI i))] [] := by
    intro n
    induction n with
    | zero => intro I i hv h8 hi hi2 hm; omega
    | succ n ih =>
      intro I i hv h8 hi hi2 hm hk
      dsimp only [M_thinker_L14] at hk
      have g6 := hv.2.1
      have g7 := hv.2.2.1
      have g8 : tn (I (m + 1) 8) < tn (I (m + 1) 7) := by
          rcases hv.2.2.2.1 with q | q
          · rw [q] at h8; exact absurd h8 i_m1
          · exact q.2.1
      refine or_iload_n E rfl dX11_thinker_14 ?_
      refine or_aload_n E rfl dX11_thinker_15 ?_
      refine ot_getC E fl_11_7 dX11_thinker_16 h_m.1 rfl ?_
      refine or_bipush (v := nI 6) E rfl dX11_thinker_19 ?_
      refine ot_iald (j := 6) E dX11_thinker_21 h_m.2.1 rfl rfl (by omega) (Nat.le_of_ble_eq_true rfl) ?_
      refine or_top (nI_tn hv.2.1.1).symm ?_
      refine or_icmp_gtN 80 E dX11_thinker_22 rfl (by omega) (by omega) (fun q22 => ?_) (fun q22 => ?_)
      · replace hk := ite_p (P := fun r : Int32 => K (some (.int (r))) (S, I, V, z)) q22 hk
        refine or_iconst (v := -1) E rfl dX11_thinker_80 ?_
        exact or_iret E F dX11_thinker_81 (Nat.le_refl _) (Nat.le_refl _) hk
      · replace hk := ite_n (P := fun r : Int32 => K (some (.int (r))) (S, I, V, z)) q22 hk
        refine or_aload_n E rfl dX11_thinker_25 ?_
        refine ot_getC E fl_11_7 dX11_thinker_26 h_m.1 rfl ?_
        refine or_bipush (v := nI 10) E rfl dX11_thinker_29 ?_
        refine ot_iald (j := 10) E dX11_thinker_31 h_m.2.1 rfl rfl (by omega) (Nat.le_of_ble_eq_true rfl) ?_
        refine or_iload_n E rfl dX11_thinker_32 ?_
        refine or_iadd E dX11_thinker_33 ?_
        refine or_aload_n E rfl dX11_thinker_34 ?_
        refine ot_getC E fl_11_7 dX11_thinker_35 h_m.1 rfl ?_
        refine or_bipush (v := nI 6) E rfl dX11_thinker_38 ?_
        refine ot_iald (j := 6) E dX11_thinker_40 h_m.2.1 rfl rfl (by omega) (Nat.le_of_ble_eq_true rfl) ?_
        refine or_irem E (by intro z; have := hv.2.1; rw [z] at this; exact absurd this.2.1 (by decide)) dX11_thinker_41 ?_
        refine or_top (nI_tn (md_th hv hi (by omega)).1).symm ?_
        refine or_istore_n E dX11_thinker_42 (by decide) ?_
        refine or_aload_n E rfl dX11_thinker_43 ?_
        refine or_iload_n E rfl dX11_thinker_44 ?_
        refine or_cV1r (cM_reasonAgainst  h_m (by have := md_th hv hi (by omega); omega) hv.1 (by omega)) E lk_11_116 dX11_thinker_45 h_m.1 rfl rfl (by decide) (by decide) ⟨Nat.le_refl _, Nat.le_refl _⟩ (Nat.le_of_ble_eq_true rfl) ?_
        refine or_if_ne 74 E dX11_thinker_48 rfl (fun q48 => ?_) (fun q48 => ?_)
        · replace hk := ite_n (P := fun r : Int32 => K (some (.int (r))) (S, I, V, z)) q48 hk
          refine or_iincN (c := 1) E dX11_thinker_74 rfl rfl (by decide) ?_
          refine or_goto 14 E dX11_thinker_77 rfl ?_
          refine or_lv _ ?_ (ih _ _ hv h8 (by omega) (by omega) (by omega) hk)
          rfl
        · replace hk := ite_p (P := fun r : Int32 => K (some (.int (r))) (S, I, V, z)) q48 hk
          refine or_aload_n E rfl dX11_thinker_51 ?_
          refine or_iload_n E rfl dX11_thinker_52 ?_
          refine or_aload_n E rfl dX11_thinker_53 ?_
          refine ot_getC E fl_11_7 dX11_thinker_54 h_m.1 rfl ?_
          refine or_bipush (v := nI 8) E rfl dX11_thinker_57 ?_
          refine ot_iald (j := 8) E dX11_thinker_59 h_m.2.1 rfl rfl (by omega) (Nat.le_of_ble_eq_true rfl) ?_
          refine or_top (nI_tn h8).symm ?_
          refine or_cV2r (cM_worthTo  h_m (by have := md_th hv hi (by omega); omega) (by omega) (hv.2.2.2.2.2.2.2.2.2 _ (by omega)).1 (hv.2.2.2.2.2.2.2.2.2 _ (by omega)).2.2) E lk_11_119 dX11_thinker_60 h_m.1 rfl rfl (by decide) (by decide) ⟨Nat.le_refl _, Nat.le_refl _⟩ (Nat.le_of_ble_eq_true rfl) ?_
          refine or_aload_n E rfl dX11_thinker_63 ?_
          refine or_cV0r (cM_bidNext  h_m (fun _ => ⟨h8, by omega⟩)) E lk_11_109 dX11_thinker_64 h_m.1 rfl rfl (by decide) (by decide) ⟨Nat.le_refl _, Nat.le_refl _⟩ (Nat.le_of_ble_eq_true rfl) ?_
          refine or_i2d E dX11_thinker_67 ?_
          refine or_dcmp E dX11_thinker_68 ?_
          refine or_if_lt 74 E dX11_thinker_69 rfl (fun q69 => ?_) (fun q69 => ?_)
          · replace hk := ite_p (P := fun r : Int32 => K (some (.int (r))) (S, I, V, z)) q69 hk
            refine or_iincN (c := 1) E dX11_thinker_74 rfl rfl (by decide) ?_
            refine or_goto 14 E dX11_thinker_77 rfl ?_
            refine or_lv _ ?_ (ih _ _ hv h8 (by omega) (by omega) (by omega) hk)
            rfl
          · replace hk := ite_n (P := fun r : Int32 => K (some (.int (r))) (S, I, V, z)) q69 hk
            refine or_iload_n E rfl dX11_thinker_72 ?_
            exact or_iret E F dX11_thinker_73 (Nat.le_refl _) (Nat.le_refl _) hk
  dsimp only [M_thinker] at hk
  refine or_aload_n E rfl dX11_thinker_0 ?_
  refine ot_getC E fl_11_7 dX11_thinker_1 h_m.1 rfl ?_
  refine or_bipush (v := nI 8) E rfl dX11_thinker_4 ?_
  refine ot_iald (j := 8) E dX11_thinker_6 h_m.2.1 rfl rfl (by omega) (Nat.le_of_ble_eq_true rfl) ?_
  refine or_if_ge 12 E dX11_thinker_7 rfl (fun q7 => ?_) (fun q7 => ?_)
  · replace hk := ite_p (P := fun r : Int32 => K (some (.int (r))) (S, I, V, z)) q7 hk
    refine or_iconst (v := nI 1) E rfl dX11_thinker_12 ?_
    refine or_istore_n E dX11_thinker_13 (by decide) ?_
    refine or_lv _ ?_ (L14 8 _ _ hv q7 (by omega) (by omega) (by omega) hk)
    rfl
  · replace hk := ite_n (P := fun r : Int32 => K (some (.int (r))) (S, I, V, z)) q7 hk
    refine or_iconst (v := -1) E rfl dX11_thinker_10 ?_
    exact or_iret E F dX11_thinker_11 (Nat.le_refl _) (Nat.le_refl _) hk
def M_sell (m : Nat) (k : Nat) (b : Nat) (I : ow_I) : ow_I :=
  lt (M_put m b 0 (M_of m b 0 I - (M_costOfPrice m (I (m + 1) 9) I)) I) (fun (I1 : ow_I) => lt (M_put m b 3 (M_of m b 3 I1 + (nI 1)) I1) (fun (I2 : ow_I) => lt (ow_u I2 (m + 1) 13 (I2 (m + 1) 13 + (I (m + 1) 9))) (fun (I3 : ow_I) => lt (ow_u I3 (m + 1) 14 (I3 (m + 1) 14 + (M_costOfPrice m (I (m + 1) 9) I - (I (m + 1) 9)))) (fun (I4 : ow_I) => lt (M_putBarrel m k 12 (nI 2) I4) (fun (I5 : ow_I) => lt (M_putBarrel m k 13 (nI b) I5) (fun (I6 : ow_I) => lt (M_putBarrel m k 14 (I (m + 1) 9) I6) (fun (I7 : ow_I) => I7)))))))
set_option maxRecDepth 100000 in
set_option maxHeartbeats 400000 in
theorem cM_sell {S : Nat → Option ow_Sh} {I : ow_I} {V : Nat → Nat → Value} {z : Nat} {m : Nat} {k : Nat} {b : Nat} (h_m : md_S S m) (hk2 : k < 20) (hb : b < 6) : ow_Cf yX11_sell cX11_sell 5 none 1 [.ref m, .int (nI k), .int (nI b)] (S, I, V, z) none (S, M_sell m k b I, V, z) := by
  refine ow_Cf.of rfl (Nat.le_of_ble_eq_true rfl) (fun X K E F hk => ?_)
  have E : ow_E X RX11 cX11_sell 5 (ow_rm 1 0 0) := E
  refine or_lv [(0, .ref m), (1, .int (nI k)), (2, .int (nI b))] rfl ?_
  dsimp only [M_sell] at hk
  refine or_aload_n E rfl dX11_sell_0 ?_
  refine ot_getC E fl_11_7 dX11_sell_1 h_m.1 rfl ?_
  refine or_bipush (v := nI 9) E rfl dX11_sell_4 ?_
  refine ot_iald (j := 9) E dX11_sell_6 h_m.2.1 rfl rfl (by omega) (Nat.le_of_ble_eq_true rfl) ?_
  refine or_istore_n E dX11_sell_7 (by decide) ?_
  refine or_aload_n E rfl dX11_sell_8 ?_
  refine or_iload_n E rfl dX11_sell_9 ?_
  refine or_cV1r (cM_costOfPrice  h_m ) E lk_11_113 dX11_sell_10 h_m.1 rfl rfl (by decide) (by decide) ⟨Nat.le_refl _, Nat.le_refl _⟩ (Nat.le_of_ble_eq_true rfl) ?_
  refine or_istore E dX11_sell_13 (by decide) ?_
  refine or_aload_n E rfl dX11_sell_15 ?_
  refine or_iload_n E rfl dX11_sell_16 ?_
  refine or_iconst (v := nI 0) E rfl dX11_sell_17 ?_
  refine or_aload_n E rfl dX11_sell_18 ?_
  refine or_iload_n E rfl dX11_sell_19 ?_
  refine or_iconst (v := nI 0) E rfl dX11_sell_20 ?_
  refine or_cV2r (cM_of  h_m (by omega)) E lk_11_86 dX11_sell_21 h_m.1 rfl rfl (by decide) (by decide) ⟨Nat.le_refl _, Nat.le_refl _⟩ (Nat.le_of_ble_eq_true rfl) ?_
  refine or_iload E rfl dX11_sell_24 ?_
  refine or_isub E dX11_sell_26 ?_
  refine or_cV3v (cM_put  h_m (by omega)) E lk_11_70 dX11_sell_27 h_m.1 rfl rfl (by decide) (by decide) ⟨Nat.le_refl _, Nat.le_refl _⟩ (Nat.le_of_ble_eq_true rfl) ?_
  obtain ⟨I1, hI1⟩ : ∃ y_ : ow_I, y_ = M_put m b 0 (M_of m b 0 I - (M_costOfPrice m (I (m + 1) 9) I)) I := ⟨_, rfl⟩
  replace hk := lt_k (P := fun r : ow_I => K none (S, r, V, z)) hI1 hk
  refine or_nmI hI1 ?_
  refine or_aload_n E rfl dX11_sell_30 ?_
  refine or_iload_n E rfl dX11_sell_31 ?_
  refine or_iconst (v := nI 3) E rfl dX11_sell_32 ?_
  refine or_aload_n E rfl dX11_sell_33 ?_
  refine or_iload_n E rfl dX11_sell_34 ?_
  refine or_iconst (v := nI 3) E rfl dX11_sell_35 ?_
  refine or_cV2r (cM_of  h_m (by omega)) E lk_11_86 dX11_sell_36 h_m.1 rfl rfl (by decide) (by decide) ⟨Nat.le_refl _, Nat.le_refl _⟩ (Nat.le_of_ble_eq_true rfl) ?_
  refine or_iconst (v := nI 1) E rfl dX11_sell_39 ?_
  refine or_iadd E dX11_sell_40 ?_
  refine or_cV3v (cM_put  h_m (by omega)) E lk_11_70 dX11_sell_41 h_m.1 rfl rfl (by decide) (by decide) ⟨Nat.le_refl _, Nat.le_refl _⟩ (Nat.le_of_ble_eq_true rfl) ?_
  obtain ⟨I2, hI2⟩ : ∃ y_ : ow_I, y_ = M_put m b 3 (M_of m b 3 I1 + (nI 1)) I1 := ⟨_, rfl⟩
  replace hk := lt_k (P := fun r : ow_I => K none (S, r, V, z)) hI2 hk
  refine or_nmI hI2 ?_
  refine or_aload_n E rfl dX11_sell_44 ?_
  refine ot_getC E fl_11_7 dX11_sell_45 h_m.1 rfl ?_
  refine or_bipush (v := nI 13) E rfl dX11_sell_48 ?_
  refine or_dup2 E rfl rfl dX11_sell_50 ?_
  refine ot_iald (j := 13) E dX11_sell_51 h_m.2.1 rfl rfl (by omega) (Nat.le_of_ble_eq_true rfl) ?_
  refine or_iload_n E rfl dX11_sell_52 ?_
  refine or_iadd E dX11_sell_53 ?_
  refine ot_iast (j := 13) E dX11_sell_54 h_m.2.1 rfl rfl (by omega) (Nat.le_of_ble_eq_true rfl) ?_
  obtain ⟨I3, hI3⟩ : ∃ y_ : ow_I, y_ = ow_u I2 (m + 1) 13 (I2 (m + 1) 13 + (I (m + 1) 9)) := ⟨_, rfl⟩
  replace hk := lt_k (P := fun r : ow_I => K none (S, r, V, z)) hI3 hk
  refine or_nmI hI3 ?_
  refine or_aload_n E rfl dX11_sell_55 ?_
  refine ot_getC E fl_11_7 dX11_sell_56 h_m.1 rfl ?_
  refine or_bipush (v := nI 14) E rfl dX11_sell_59 ?_
  refine or_dup2 E rfl rfl dX11_sell_61 ?_
  refine ot_iald (j := 14) E dX11_sell_62 h_m.2.1 rfl rfl (by omega) (Nat.le_of_ble_eq_true rfl) ?_
  refine or_iload E rfl dX11_sell_63 ?_
  refine or_iload_n E rfl dX11_sell_65 ?_
  refine or_isub E dX11_sell_66 ?_
  refine or_iadd E dX11_sell_67 ?_
  refine ot_iast (j := 14) E dX11_sell_68 h_m.2.1 rfl rfl (by omega) (Nat.le_of_ble_eq_true rfl) ?_
  obtain ⟨I4, hI4⟩ : ∃ y_ : ow_I, y_ = ow_u I3 (m + 1) 14 (I3 (m + 1) 14 + (M_costOfPrice m (I (m + 1) 9) I - (I (m + 1) 9))) := ⟨_, rfl⟩
  replace hk := lt_k (P := fun r : ow_I => K none (S, r, V, z)) hI4 hk
  refine or_nmI hI4 ?_
  refine or_aload_n E rfl dX11_sell_69 ?_
  refine or_iload_n E rfl dX11_sell_70 ?_
  refine or_bipush (v := nI 12) E rfl dX11_sell_71 ?_
  refine or_iconst (v := nI 2) E rfl dX11_sell_73 ?_
  refine or_cV3v (cM_putBarrel  h_m (by omega)) E lk_11_73 dX11_sell_74 h_m.1 rfl rfl (by decide) (by decide) ⟨Nat.le_refl _, Nat.le_refl _⟩ (Nat.le_of_ble_eq_true rfl) ?_
  obtain ⟨I5, hI5⟩ : ∃ y_ : ow_I, y_ = M_putBarrel m k 12 (nI 2) I4 := ⟨_, rfl⟩
  replace hk := lt_k (P := fun r : ow_I => K none (S, r, V, z)) hI5 hk
  refine or_nmI hI5 ?_
  refine or_aload_n E rfl dX11_sell_77 ?_
  refine or_iload_n E rfl dX11_sell_78 ?_
  refine or_bipush (v := nI 13) E rfl dX11_sell_79 ?_
  refine or_iload_n E rfl dX11_sell_81 ?_
  refine or_cV3v (cM_putBarrel  h_m (by omega)) E lk_11_73 dX11_sell_82 h_m.1 rfl rfl (by decide) (by decide) ⟨Nat.le_refl _, Nat.le_refl _⟩ (Nat.le_of_ble_eq_true rfl) ?_
  obtain ⟨I6, hI6⟩ : ∃ y_ : ow_I, y_ = M_putBarrel m k 13 (nI b) I5 := ⟨_, rfl⟩
  replace hk := lt_k (P := fun r : ow_I => K none (S, r, V, z)) hI6 hk
  refine or_nmI hI6 ?_
  refine or_aload_n E rfl dX11_sell_85 ?_
  refine or_iload_n E rfl dX11_sell_86 ?_
  refine or_bipush (v := nI 14) E rfl dX11_sell_87 ?_
  refine or_iload_n E rfl dX11_sell_89 ?_
  refine or_cV3v (cM_putBarrel  h_m (by omega)) E lk_11_73 dX11_sell_90 h_m.1 rfl rfl (by decide) (by decide) ⟨Nat.le_refl _, Nat.le_refl _⟩ (Nat.le_of_ble_eq_true rfl) ?_
  obtain ⟨I7, hI7⟩ : ∃ y_ : ow_I, y_ = M_putBarrel m k 14 (I (m + 1) 9) I6 := ⟨_, rfl⟩
  replace hk := lt_k (P := fun r : ow_I => K none (S, r, V, z)) hI7 hk
  refine or_nmI hI7 ?_
  exact or_vret E F dX11_sell_93 (Nat.le_refl _) (Nat.le_refl _) hk
def M_turnBack (m : Nat) (b : Nat) (I : ow_I) : ow_I :=
  lt (M_putBarrel m b 11 (M_ofBarrel m b 11 I + (nI 1)) I) (fun (I1 : ow_I) => if M_ofBarrel m b 11 I + (nI 1) = nI 3 then lt (M_putBarrel m b 12 (nI 3) I1) (fun (I3 : ow_I) => I3) else lt (M_enqueue m b I1) (fun (I2 : ow_I) => I2))
set_option maxRecDepth 100000 in
set_option maxHeartbeats 400000 in
theorem cM_turnBack {S : Nat → Option ow_Sh} {I : ow_I} {V : Nat → Nat → Value} {z : Nat} {m : Nat} {b : Nat} (h_m : md_S S m) (hb : b < 20) (h12 : 0 ≤ I (m + 1) 12) (h12b : tn (I (m + 1) 12) < 20) : ow_Cf yX11_turnBack cX11_turnBack 3 none 2 [.ref m, .int (nI b)] (S, I, V, z) none (S, M_turnBack m b I, V, z) := by
  refine ow_Cf.of rfl (Nat.le_of_ble_eq_true rfl) (fun X K E F hk => ?_)
  have E : ow_E X RX11 cX11_turnBack 3 (ow_rm 2 0 0) := E
  refine or_lv [(0, .ref m), (1, .int (nI b))] rfl ?_
  dsimp only [M_turnBack] at hk
  refine or_aload_n E rfl dX11_turnBack_0 ?_
  refine or_iload_n E rfl dX11_turnBack_1 ?_
  refine or_bipush (v := nI 11) E rfl dX11_turnBack_2 ?_
  refine or_cV2r (cM_ofBarrel  h_m (by omega)) E lk_11_66 dX11_turnBack_4 h_m.1 rfl rfl (by decide) (by decide) ⟨Nat.le_refl _, Nat.le_refl _⟩ (Nat.le_of_ble_eq_true rfl) ?_
  refine or_iconst (v := nI 1) E rfl dX11_turnBack_7 ?_
  refine or_iadd E dX11_turnBack_8 ?_
  refine or_istore_n E dX11_turnBack_9 (by decide) ?_
  refine or_aload_n E rfl dX11_turnBack_10 ?_
  refine or_iload_n E rfl dX11_turnBack_11 ?_
  refine or_bipush (v := nI 11) E rfl dX11_turnBack_12 ?_
  refine or_iload_n E rfl dX11_turnBack_14 ?_
  refine or_cV3v (cM_putBarrel  h_m (by omega)) E lk_11_73 dX11_turnBack_15 h_m.1 rfl rfl (by decide) (by decide) ⟨Nat.le_refl _, Nat.le_refl _⟩ (Nat.le_of_ble_eq_true rfl) ?_
  obtain ⟨I1, hI1⟩ : ∃ y_ : ow_I, y_ = M_putBarrel m b 11 (M_ofBarrel m b 11 I + (nI 1)) I := ⟨_, rfl⟩
  replace hk := lt_k (P := fun r : ow_I => K none (S, r, V, z)) hI1 hk
  refine or_nmI hI1 ?_
  refine or_iload_n E rfl dX11_turnBack_18 ?_
  refine or_iconst (v := nI 3) E rfl dX11_turnBack_19 ?_
  refine or_icmp_ne 34 E dX11_turnBack_20 rfl (fun q20 => ?_) (fun q20 => ?_)
  · replace hk := ite_n (P := fun r : ow_I => K none (S, r, V, z)) q20 hk
    refine or_aload_n E rfl dX11_turnBack_34 ?_
    refine or_iload_n E rfl dX11_turnBack_35 ?_
    refine or_cV1v (cM_enqueue  h_m (by subst hI1; exact hb) (by subst hI1; simp (disch := omega) only [ow_u_k, rdPB, rdPu]; exact h12) (by subst hI1; simp (disch := omega) only [ow_u_k, rdPB, rdPu]; exact h12b)) E lk_11_76 dX11_turnBack_36 h_m.1 rfl rfl (by decide) (by decide) ⟨Nat.le_refl _, Nat.le_refl _⟩ (Nat.le_of_ble_eq_true rfl) ?_
    obtain ⟨I2, hI2⟩ : ∃ y_ : ow_I, y_ = M_enqueue m b I1 := ⟨_, rfl⟩
    replace hk := lt_k (P := fun r : ow_I => K none (S, r, V, z)) hI2 hk
    refine or_nmI hI2 ?_
    exact or_vret E F dX11_turnBack_39 (Nat.le_refl _) (Nat.le_refl _) hk
  · replace hk := ite_p (P := fun r : ow_I => K none (S, r, V, z)) q20 hk
    refine or_aload_n E rfl dX11_turnBack_23 ?_
    refine or_iload_n E rfl dX11_turnBack_24 ?_
    refine or_bipush (v := nI 12) E rfl dX11_turnBack_25 ?_
    refine or_iconst (v := nI 3) E rfl dX11_turnBack_27 ?_
    refine or_cV3v (cM_putBarrel  h_m (by omega)) E lk_11_73 dX11_turnBack_28 h_m.1 rfl rfl (by decide) (by decide) ⟨Nat.le_refl _, Nat.le_refl _⟩ (Nat.le_of_ble_eq_true rfl) ?_
    obtain ⟨I3, hI3⟩ : ∃ y_ : ow_I, y_ = M_putBarrel m b 12 (nI 3) I1 := ⟨_, rfl⟩
    replace hk := lt_k (P := fun r : ow_I => K none (S, r, V, z)) hI3 hk
    refine or_nmI hI3 ?_
    refine or_goto 39 E dX11_turnBack_31 rfl ?_
    exact or_vret E F dX11_turnBack_39 (Nat.le_refl _) (Nat.le_refl _) hk
def M_dequeue_L34 (m : Nat) (b : Nat) : Nat → ow_I → Nat → ow_I
  | 0, I, _ => I
  | n + 1, I, j => if tn (I (m + 1) 12) ≤ j then I else lt (ow_u I (m + 1) (16 + j) (I (m + 1) (16 + j + 1))) (fun (I2 : ow_I) => M_dequeue_L34 m b n I2 (j + 1))
def M_dequeue_L2 (m : Nat) (b : Nat) : Nat → ow_I → Nat → ow_I
  | 0, I, _ => I
  | n + 1, I, i => if I (m + 1) (16 + i) = nI b then lt (ow_u I (m + 1) 12 (I (m + 1) 12 - (nI 1))) (fun (I1 : ow_I) => M_dequeue_L34 m b 21 I1 i) else M_dequeue_L2 m b n I (i + 1)
def M_dequeue (m : Nat) (b : Nat) (I : ow_I) : ow_I :=
  M_dequeue_L2 m b 21 I 0
set_option maxRecDepth 100000 in
set_option maxHeartbeats 400000 in
theorem cM_dequeue {S : Nat → Option ow_Sh} {I : ow_I} {V : Nat → Nat → Value} {z : Nat} {m : Nat} {b : Nat} {p : Nat} (h_m : md_S S m) (hp : p < tn (I (m + 1) 12)) (hpm : I (m + 1) (16 + p) = nI b) (h12 : 0 ≤ I (m + 1) 12) (h12b : tn (I (m + 1) 12) ≤ 20) : ow_Cf yX11_dequeue cX11_dequeue 4 none 0 [.ref m, .int (nI b)] (S, I, V, z) none (S, M_dequeue m b I, V, z) := by
  refine ow_Cf.of rfl (Nat.le_of_ble_eq_true rfl) (fun X K E F hk => ?_)
  have E : ow_E X RX11 cX11_dequeue 4 (ow_rm 0 0 0) := E
  refine or_lv [(0, .ref m), (1, .int (nI b))] rfl ?_
  have L34 : ∀ (n : Nat) (I : ow_I) (j : Nat) (q : Nat) (hq : q < 20) (hj : j ≤ q) (h12 : I (m + 1) 12 = nI q) (hm : q - j < n) (hk : K none (S, M_dequeue_L34 m b n I j, V, z)), ow_W X 0 0 (S, I, V, z) 34 [(0, .ref m), (1, .int (nI b)), (3, .int (nI j))] [] := by
    intro n
    induction n with
    | zero => intro I j q hq hj h12 hm; omega
    | succ n ih =>
      intro I j q hq hj h12 hm hk
      dsimp only [M_dequeue_L34] at hk
      have g12 : tn (I (m + 1) 12) = q := by rw [h12, tn_nI (by omega)]
      refine or_iload_n E rfl dX11_dequeue_34 ?_
      refine or_aload_n E rfl dX11_dequeue_35 ?_
      refine ot_getC E fl_11_7 dX11_dequeue_36 h_m.1 rfl ?_
      refine or_bipush (v := nI 12) E rfl dX11_dequeue_39 ?_
      refine ot_iald (j := 12) E dX11_dequeue_41 h_m.2.1 rfl rfl (by omega) (Nat.le_of_ble_eq_true rfl) ?_
      refine or_top (nI_tn (by show 0 ≤ I (m + 1) 12; rw [h12]; exact nI_ge0 (by omega))).symm ?_
      refine or_icmp_geN 71 E dX11_dequeue_42 rfl (by omega) (by omega) (fun q42 => ?_) (fun q42 => ?_)
      · replace hk := ite_p (P := fun r : ow_I => K none (S, r, V, z)) q42 hk
        exact or_vret E F dX11_dequeue_71 (Nat.le_refl _) (Nat.le_refl _) hk
      · replace hk := ite_n (P := fun r : ow_I => K none (S, r, V, z)) q42 hk
        refine or_aload_n E rfl dX11_dequeue_45 ?_
        refine ot_getC E fl_11_7 dX11_dequeue_46 h_m.1 rfl ?_
        refine or_bipush (v := nI 16) E rfl dX11_dequeue_49 ?_
        refine or_iload_n E rfl dX11_dequeue_51 ?_
        refine or_iaddN E dX11_dequeue_52 ?_
        refine or_aload_n E rfl dX11_dequeue_53 ?_
        refine ot_getC E fl_11_7 dX11_dequeue_54 h_m.1 rfl ?_
        refine or_bipush (v := nI 16) E rfl dX11_dequeue_57 ?_
        refine or_iload_n E rfl dX11_dequeue_59 ?_
        refine or_iaddN E dX11_dequeue_60 ?_
        refine or_iconst (v := nI 1) E rfl dX11_dequeue_61 ?_
        refine or_iaddN E dX11_dequeue_62 ?_
        refine ot_iald (j := 16 + j + 1) E dX11_dequeue_63 h_m.2.1 rfl rfl (by omega) (Nat.le_of_ble_eq_true rfl) ?_
        refine ot_iast (j := 16 + j) E dX11_dequeue_64 h_m.2.1 rfl rfl (by omega) (Nat.le_of_ble_eq_true rfl) ?_
        obtain ⟨I2, hI2⟩ : ∃ y_ : ow_I, y_ = ow_u I (m + 1) (16 + j) (I (m + 1) (16 + j + 1)) := ⟨_, rfl⟩
        replace hk := lt_k (P := fun r : ow_I => K none (S, r, V, z)) hI2 hk
        refine or_nmI hI2 ?_
        refine or_iincN (c := 1) E dX11_dequeue_65 rfl rfl (by decide) ?_
        refine or_goto 34 E dX11_dequeue_68 rfl ?_
        refine or_lv _ ?_ (ih _ _ q (by subst hI2; exact hq) (by subst hI2; omega) (by subst hI2; rw [ow_u_k _ _ _ _ (by omega)]; exact h12) (by omega) hk)
        rfl
  have L2 : ∀ (n : Nat) (I : ow_I) (i : Nat) (hi : i ≤ p) (hp : p < tn (I (m + 1) 12)) (hpm : I (m + 1) (16 + p) = nI b) (h12 : 0 ≤ I (m + 1) 12) (h12b : tn (I (m + 1) 12) ≤ 20) (hm : p - i < n) (hk : K none (S, M_dequeue_L2 m b n I i, V, z)), ow_W X 0 0 (S, I, V, z) 2 [(0, .ref m), (1, .int (nI b)), (2, .int (nI i))] [] := by
    intro n
    induction n with
    | zero => intro I i hi hp hpm h12 h12b hm; omega
    | succ n ih =>
      intro I i hi hp hpm h12 h12b hm hk
      dsimp only [M_dequeue_L2] at hk
      refine or_aload_n E rfl dX11_dequeue_2 ?_
      refine ot_getC E fl_11_7 dX11_dequeue_3 h_m.1 rfl ?_
      refine or_bipush (v := nI 16) E rfl dX11_dequeue_6 ?_
      refine or_iload_n E rfl dX11_dequeue_8 ?_
      refine or_iaddN E dX11_dequeue_9 ?_
      refine ot_iald (j := 16 + i) E dX11_dequeue_10 h_m.2.1 rfl rfl (by omega) (Nat.le_of_ble_eq_true rfl) ?_
      refine or_iload_n E rfl dX11_dequeue_11 ?_
      refine or_icmp_eq 21 E dX11_dequeue_12 rfl (fun q12 => ?_) (fun q12 => ?_)
      · replace hk := ite_p (P := fun r : ow_I => K none (S, r, V, z)) q12 hk
        refine or_aload_n E rfl dX11_dequeue_21 ?_
        refine ot_getC E fl_11_7 dX11_dequeue_22 h_m.1 rfl ?_
        refine or_bipush (v := nI 12) E rfl dX11_dequeue_25 ?_
        refine or_dup2 E rfl rfl dX11_dequeue_27 ?_
        refine ot_iald (j := 12) E dX11_dequeue_28 h_m.2.1 rfl rfl (by omega) (Nat.le_of_ble_eq_true rfl) ?_
        refine or_iconst (v := nI 1) E rfl dX11_dequeue_29 ?_
        refine or_isub E dX11_dequeue_30 ?_
        refine ot_iast (j := 12) E dX11_dequeue_31 h_m.2.1 rfl rfl (by omega) (Nat.le_of_ble_eq_true rfl) ?_
        obtain ⟨I1, hI1⟩ : ∃ y_ : ow_I, y_ = ow_u I (m + 1) 12 (I (m + 1) 12 - (nI 1)) := ⟨_, rfl⟩
        replace hk := lt_k (P := fun r : ow_I => K none (S, r, V, z)) hI1 hk
        refine or_nmI hI1 ?_
        refine or_iload_n E rfl dX11_dequeue_32 ?_
        refine or_istore_n E dX11_dequeue_33 (by decide) ?_
        refine or_lv _ ?_ (L34 21 _ _ (tn (I (m + 1) 12) - 1) (by subst hI1; omega) (by subst hI1; omega) (by subst hI1; rw [ow_u_s]; rw [show I (m + 1) 12 = nI (tn (I (m + 1) 12)) from (nI_tn h12).symm, pk_sub (by omega), tn_nI (by omega)]) (by omega) hk)
        rfl
      · replace hk := ite_n (P := fun r : ow_I => K none (S, r, V, z)) q12 hk
        refine or_iincN (c := 1) E dX11_dequeue_15 rfl rfl (by decide) ?_
        refine or_goto 2 E dX11_dequeue_18 rfl ?_
        refine or_lv _ ?_ (ih _ _ (by have : i ≠ p := fun z => q12 (by rw [z]; exact hpm); omega) hp hpm h12 h12b (by have : i ≠ p := fun z => q12 (by rw [z]; exact hpm); omega) hk)
        rfl
  dsimp only [M_dequeue] at hk
  refine or_iconst (v := nI 0) E rfl dX11_dequeue_0 ?_
  refine or_istore_n E dX11_dequeue_1 (by decide) ?_
  refine or_lv _ ?_ (L2 21 _ _ (by omega) hp hpm h12 h12b (by omega) hk)
  rfl
def M_closeBarrel (m : Nat) (I : ow_I) : ow_I :=
  if I (m + 1) 10 < 0 then lt (M_turnBack m (tn (I (m + 1) 8)) I) (fun (I1 : ow_I) => lt (ow_u I1 (m + 1) 8 ((-1))) (fun (I2 : ow_I) => lt (ow_u I2 (m + 1) 10 ((-1))) (fun (I3 : ow_I) => lt (ow_u I3 (m + 1) 9 (nI 0)) (fun (I4 : ow_I) => lt (ow_u I4 (m + 1) 11 (nI 0)) (fun (I5 : ow_I) => I5))))) else lt (M_sell m (tn (I (m + 1) 8)) (tn (I (m + 1) 10)) I) (fun (I6 : ow_I) => lt (ow_u I6 (m + 1) 8 ((-1))) (fun (I7 : ow_I) => lt (ow_u I7 (m + 1) 10 ((-1))) (fun (I8 : ow_I) => lt (ow_u I8 (m + 1) 9 (nI 0)) (fun (I9 : ow_I) => lt (ow_u I9 (m + 1) 11 (nI 0)) (fun (I10 : ow_I) => I10)))))
set_option maxRecDepth 100000 in
set_option maxHeartbeats 400000 in
theorem cM_closeBarrel {S : Nat → Option ow_Sh} {I : ow_I} {V : Nat → Nat → Value} {z : Nat} {m : Nat} (h_m : md_S S m) (h8 : 0 ≤ I (m + 1) 8) (h8b : tn (I (m + 1) 8) < 20) (h10 : 0 ≤ I (m + 1) 10 → tn (I (m + 1) 10) < 6) (h12 : 0 ≤ I (m + 1) 12) (h12b : tn (I (m + 1) 12) < 20) : ow_Cf yX11_closeBarrel cX11_closeBarrel 3 none 3 [.ref m] (S, I, V, z) none (S, M_closeBarrel m I, V, z) := by
  refine ow_Cf.of rfl (Nat.le_of_ble_eq_true rfl) (fun X K E F hk => ?_)
  have E : ow_E X RX11 cX11_closeBarrel 3 (ow_rm 3 0 0) := E
  refine or_lv [(0, .ref m)] rfl ?_
  dsimp only [M_closeBarrel] at hk
  refine or_aload_n E rfl dX11_closeBarrel_0 ?_
  refine ot_getC E fl_11_7 dX11_closeBarrel_1 h_m.1 rfl ?_
  refine or_bipush (v := nI 8) E rfl dX11_closeBarrel_4 ?_
  refine ot_iald (j := 8) E dX11_closeBarrel_6 h_m.2.1 rfl rfl (by omega) (Nat.le_of_ble_eq_true rfl) ?_
  refine or_top (nI_tn h8).symm ?_
  refine or_istore_n E dX11_closeBarrel_7 (by decide) ?_
  refine or_aload_n E rfl dX11_closeBarrel_8 ?_
  refine ot_getC E fl_11_7 dX11_closeBarrel_9 h_m.1 rfl ?_
  refine or_bipush (v := nI 10) E rfl dX11_closeBarrel_12 ?_
  refine ot_iald (j := 10) E dX11_closeBarrel_14 h_m.2.1 rfl rfl (by omega) (Nat.le_of_ble_eq_true rfl) ?_
  refine or_istore_n E dX11_closeBarrel_15 (by decide) ?_
  refine or_iload_n E rfl dX11_closeBarrel_16 ?_
  refine or_if_lt 29 E dX11_closeBarrel_17 rfl (fun q17 => ?_) (fun q17 => ?_)
  · replace hk := ite_p (P := fun r : ow_I => K none (S, r, V, z)) q17 hk
    refine or_aload_n E rfl dX11_closeBarrel_29 ?_
    refine or_iload_n E rfl dX11_closeBarrel_30 ?_
    refine or_cV1v (cM_turnBack  h_m h8b h12 h12b) E lk_11_126 dX11_closeBarrel_31 h_m.1 rfl rfl (by decide) (by decide) ⟨Nat.le_refl _, Nat.le_refl _⟩ (Nat.le_of_ble_eq_true rfl) ?_
    obtain ⟨I1, hI1⟩ : ∃ y_ : ow_I, y_ = M_turnBack m (tn (I (m + 1) 8)) I := ⟨_, rfl⟩
    replace hk := lt_k (P := fun r : ow_I => K none (S, r, V, z)) hI1 hk
    refine or_nmI hI1 ?_
    refine or_aload_n E rfl dX11_closeBarrel_34 ?_
    refine ot_getC E fl_11_7 dX11_closeBarrel_35 h_m.1 rfl ?_
    refine or_bipush (v := nI 8) E rfl dX11_closeBarrel_38 ?_
    refine or_iconst (v := -1) E rfl dX11_closeBarrel_40 ?_
    refine ot_iast (j := 8) E dX11_closeBarrel_41 h_m.2.1 rfl rfl (by omega) (Nat.le_of_ble_eq_true rfl) ?_
    obtain ⟨I2, hI2⟩ : ∃ y_ : ow_I, y_ = ow_u I1 (m + 1) 8 ((-1)) := ⟨_, rfl⟩
    replace hk := lt_k (P := fun r : ow_I => K none (S, r, V, z)) hI2 hk
    refine or_nmI hI2 ?_
    refine or_aload_n E rfl dX11_closeBarrel_42 ?_
    refine ot_getC E fl_11_7 dX11_closeBarrel_43 h_m.1 rfl ?_
    refine or_bipush (v := nI 10) E rfl dX11_closeBarrel_46 ?_
    refine or_iconst (v := -1) E rfl dX11_closeBarrel_48 ?_
    refine ot_iast (j := 10) E dX11_closeBarrel_49 h_m.2.1 rfl rfl (by omega) (Nat.le_of_ble_eq_true rfl) ?_
    obtain ⟨I3, hI3⟩ : ∃ y_ : ow_I, y_ = ow_u I2 (m + 1) 10 ((-1)) := ⟨_, rfl⟩
    replace hk := lt_k (P := fun r : ow_I => K none (S, r, V, z)) hI3 hk
    refine or_nmI hI3 ?_
    refine or_aload_n E rfl dX11_closeBarrel_50 ?_
    refine ot_getC E fl_11_7 dX11_closeBarrel_51 h_m.1 rfl ?_
    refine or_bipush (v := nI 9) E rfl dX11_closeBarrel_54 ?_
    refine or_iconst (v := nI 0) E rfl dX11_closeBarrel_56 ?_
    refine ot_iast (j := 9) E dX11_closeBarrel_57 h_m.2.1 rfl rfl (by omega) (Nat.le_of_ble_eq_true rfl) ?_
    obtain ⟨I4, hI4⟩ : ∃ y_ : ow_I, y_ = ow_u I3 (m + 1) 9 (nI 0) := ⟨_, rfl⟩
    replace hk := lt_k (P := fun r : ow_I => K none (S, r, V, z)) hI4 hk
    refine or_nmI hI4 ?_
    refine or_aload_n E rfl dX11_closeBarrel_58 ?_
    refine ot_getC E fl_11_7 dX11_closeBarrel_59 h_m.1 rfl ?_
    refine or_bipush (v := nI 11) E rfl dX11_closeBarrel_62 ?_
    refine or_iconst (v := nI 0) E rfl dX11_closeBarrel_64 ?_
    refine ot_iast (j := 11) E dX11_closeBarrel_65 h_m.2.1 rfl rfl (by omega) (Nat.le_of_ble_eq_true rfl) ?_
    obtain ⟨I5, hI5⟩ : ∃ y_ : ow_I, y_ = ow_u I4 (m + 1) 11 (nI 0) := ⟨_, rfl⟩
    replace hk := lt_k (P := fun r : ow_I => K none (S, r, V, z)) hI5 hk
    refine or_nmI hI5 ?_
    exact or_vret E F dX11_closeBarrel_66 (Nat.le_refl _) (Nat.le_refl _) hk
  · replace hk := ite_n (P := fun r : ow_I => K none (S, r, V, z)) q17 hk
    refine or_aload_n E rfl dX11_closeBarrel_20 ?_
    refine or_iload_n E rfl dX11_closeBarrel_21 ?_
    refine or_iload_n E rfl dX11_closeBarrel_22 ?_
    refine or_top (nI_tn (i_nlt q17)).symm ?_
    refine or_cV2v (cM_sell  h_m h8b (h10 (i_nlt q17))) E lk_11_123 dX11_closeBarrel_23 h_m.1 rfl rfl (by decide) (by decide) ⟨Nat.le_refl _, Nat.le_refl _⟩ (Nat.le_of_ble_eq_true rfl) ?_
    obtain ⟨I6, hI6⟩ : ∃ y_ : ow_I, y_ = M_sell m (tn (I (m + 1) 8)) (tn (I (m + 1) 10)) I := ⟨_, rfl⟩
    replace hk := lt_k (P := fun r : ow_I => K none (S, r, V, z)) hI6 hk
    refine or_nmI hI6 ?_
    refine or_goto 34 E dX11_closeBarrel_26 rfl ?_
    refine or_aload_n E rfl dX11_closeBarrel_34 ?_
    refine ot_getC E fl_11_7 dX11_closeBarrel_35 h_m.1 rfl ?_
    refine or_bipush (v := nI 8) E rfl dX11_closeBarrel_38 ?_
    refine or_iconst (v := -1) E rfl dX11_closeBarrel_40 ?_
    refine ot_iast (j := 8) E dX11_closeBarrel_41 h_m.2.1 rfl rfl (by omega) (Nat.le_of_ble_eq_true rfl) ?_
    obtain ⟨I7, hI7⟩ : ∃ y_ : ow_I, y_ = ow_u I6 (m + 1) 8 ((-1)) := ⟨_, rfl⟩
    replace hk := lt_k (P := fun r : ow_I => K none (S, r, V, z)) hI7 hk
    refine or_nmI hI7 ?_
    refine or_aload_n E rfl dX11_closeBarrel_42 ?_
    refine ot_getC E fl_11_7 dX11_closeBarrel_43 h_m.1 rfl ?_
    refine or_bipush (v := nI 10) E rfl dX11_closeBarrel_46 ?_
    refine or_iconst (v := -1) E rfl dX11_closeBarrel_48 ?_
    refine ot_iast (j := 10) E dX11_closeBarrel_49 h_m.2.1 rfl rfl (by omega) (Nat.le_of_ble_eq_true rfl) ?_
    obtain ⟨I8, hI8⟩ : ∃ y_ : ow_I, y_ = ow_u I7 (m + 1) 10 ((-1)) := ⟨_, rfl⟩
    replace hk := lt_k (P := fun r : ow_I => K none (S, r, V, z)) hI8 hk
    refine or_nmI hI8 ?_
    refine or_aload_n E rfl dX11_closeBarrel_50 ?_
    refine ot_getC E fl_11_7 dX11_closeBarrel_51 h_m.1 rfl ?_
    refine or_bipush (v := nI 9) E rfl dX11_closeBarrel_54 ?_
    refine or_iconst (v := nI 0) E rfl dX11_closeBarrel_56 ?_
    refine ot_iast (j := 9) E dX11_closeBarrel_57 h_m.2.1 rfl rfl (by omega) (Nat.le_of_ble_eq_true rfl) ?_
    obtain ⟨I9, hI9⟩ : ∃ y_ : ow_I, y_ = ow_u I8 (m + 1) 9 (nI 0) := ⟨_, rfl⟩
    replace hk := lt_k (P := fun r : ow_I => K none (S, r, V, z)) hI9 hk
    refine or_nmI hI9 ?_
    refine or_aload_n E rfl dX11_closeBarrel_58 ?_
    refine ot_getC E fl_11_7 dX11_closeBarrel_59 h_m.1 rfl ?_
    refine or_bipush (v := nI 11) E rfl dX11_closeBarrel_62 ?_
    refine or_iconst (v := nI 0) E rfl dX11_closeBarrel_64 ?_
    refine ot_iast (j := 11) E dX11_closeBarrel_65 h_m.2.1 rfl rfl (by omega) (Nat.le_of_ble_eq_true rfl) ?_
    obtain ⟨I10, hI10⟩ : ∃ y_ : ow_I, y_ = ow_u I9 (m + 1) 11 (nI 0) := ⟨_, rfl⟩
    replace hk := lt_k (P := fun r : ow_I => K none (S, r, V, z)) hI10 hk
    refine or_nmI hI10 ?_
    exact or_vret E F dX11_closeBarrel_66 (Nat.le_refl _) (Nat.le_refl _) hk
def M_openFirst (m : Nat) (I : ow_I) : ow_I :=
  if tn (I (m + 1) 12) = 0 then I else lt (M_dequeue m (tn (I (m + 1) 16)) I) (fun (I1 : ow_I) => lt (M_putBarrel m (tn (I (m + 1) 16)) 12 (nI 1) I1) (fun (I2 : ow_I) => lt (ow_u I2 (m + 1) 8 (nI (tn (I (m + 1) 16)))) (fun (I3 : ow_I) => lt (ow_u I3 (m + 1) 10 ((-1))) (fun (I4 : ow_I) => lt (ow_u I4 (m + 1) 9 (nI 0)) (fun (I5 : ow_I) => lt (ow_u I5 (m + 1) 11 (nI 0)) (fun (I6 : ow_I) => I6))))))
set_option maxRecDepth 100000 in
set_option maxHeartbeats 400000 in
theorem cM_openFirst {S : Nat → Option ow_Sh} {I : ow_I} {V : Nat → Nat → Value} {z : Nat} {m : Nat} (h_m : md_S S m) (h12 : 0 ≤ I (m + 1) 12) (h12b : tn (I (m + 1) 12) ≤ 20) (hq0 : 0 < tn (I (m + 1) 12) → 0 ≤ I (m + 1) 16 ∧ tn (I (m + 1) 16) < 20) : ow_Cf yX11_openFirst cX11_openFirst 2 none 1 [.ref m] (S, I, V, z) none (S, M_openFirst m I, V, z) := by
  refine ow_Cf.of rfl (Nat.le_of_ble_eq_true rfl) (fun X K E F hk => ?_)
  have E : ow_E X RX11 cX11_openFirst 2 (ow_rm 1 0 0) := E
  refine or_lv [(0, .ref m)] rfl ?_
  dsimp only [M_openFirst] at hk
  refine or_aload_n E rfl dX11_openFirst_0 ?_
  refine ot_getC E fl_11_7 dX11_openFirst_1 h_m.1 rfl ?_
  refine or_bipush (v := nI 12) E rfl dX11_openFirst_4 ?_
  refine ot_iald (j := 12) E dX11_openFirst_6 h_m.2.1 rfl rfl (by omega) (Nat.le_of_ble_eq_true rfl) ?_
  refine or_top (nI_tn h12).symm ?_
  refine or_if_neN 11 E dX11_openFirst_7 rfl (by omega) (fun q7 => ?_) (fun q7 => ?_)
  · replace hk := ite_n (P := fun r : ow_I => K none (S, r, V, z)) q7 hk
    refine or_aload_n E rfl dX11_openFirst_11 ?_
    refine ot_getC E fl_11_7 dX11_openFirst_12 h_m.1 rfl ?_
    refine or_bipush (v := nI 16) E rfl dX11_openFirst_15 ?_
    refine ot_iald (j := 16) E dX11_openFirst_17 h_m.2.1 rfl rfl (by omega) (Nat.le_of_ble_eq_true rfl) ?_
    refine or_top (nI_tn (hq0 (by omega)).1).symm ?_
    refine or_istore_n E dX11_openFirst_18 (by decide) ?_
    refine or_aload_n E rfl dX11_openFirst_19 ?_
    refine or_iload_n E rfl dX11_openFirst_20 ?_
    refine or_cV1v (cM_dequeue  h_m (p := 0) (by omega) (nI_tn (hq0 (by omega)).1).symm h12 h12b) E lk_11_129 dX11_openFirst_21 h_m.1 rfl rfl (by decide) (by decide) ⟨Nat.le_refl _, Nat.le_refl _⟩ (Nat.le_of_ble_eq_true rfl) ?_
    obtain ⟨I1, hI1⟩ : ∃ y_ : ow_I, y_ = M_dequeue m (tn (I (m + 1) 16)) I := ⟨_, rfl⟩
    replace hk := lt_k (P := fun r : ow_I => K none (S, r, V, z)) hI1 hk
    refine or_nmI hI1 ?_
    refine or_aload_n E rfl dX11_openFirst_24 ?_
    refine or_iload_n E rfl dX11_openFirst_25 ?_
    refine or_bipush (v := nI 12) E rfl dX11_openFirst_26 ?_
    refine or_iconst (v := nI 1) E rfl dX11_openFirst_28 ?_
    refine or_cV3v (cM_putBarrel  h_m (by subst hI1; have := (hq0 (by omega)).2; omega)) E lk_11_73 dX11_openFirst_29 h_m.1 rfl rfl (by decide) (by decide) ⟨Nat.le_refl _, Nat.le_refl _⟩ (Nat.le_of_ble_eq_true rfl) ?_
    obtain ⟨I2, hI2⟩ : ∃ y_ : ow_I, y_ = M_putBarrel m (tn (I (m + 1) 16)) 12 (nI 1) I1 := ⟨_, rfl⟩
    replace hk := lt_k (P := fun r : ow_I => K none (S, r, V, z)) hI2 hk
    refine or_nmI hI2 ?_
    refine or_aload_n E rfl dX11_openFirst_32 ?_
    refine ot_getC E fl_11_7 dX11_openFirst_33 h_m.1 rfl ?_
    refine or_bipush (v := nI 8) E rfl dX11_openFirst_36 ?_
    refine or_iload_n E rfl dX11_openFirst_38 ?_
    refine ot_iast (j := 8) E dX11_openFirst_39 h_m.2.1 rfl rfl (by omega) (Nat.le_of_ble_eq_true rfl) ?_
    obtain ⟨I3, hI3⟩ : ∃ y_ : ow_I, y_ = ow_u I2 (m + 1) 8 (nI (tn (I (m + 1) 16))) := ⟨_, rfl⟩
    replace hk := lt_k (P := fun r : ow_I => K none (S, r, V, z)) hI3 hk
    refine or_nmI hI3 ?_
    refine or_aload_n E rfl dX11_openFirst_40 ?_
    refine ot_getC E fl_11_7 dX11_openFirst_41 h_m.1 rfl ?_
    refine or_bipush (v := nI 10) E rfl dX11_openFirst_44 ?_
    refine or_iconst (v := -1) E rfl dX11_openFirst_46 ?_
    refine ot_iast (j := 10) E dX11_openFirst_47 h_m.2.1 rfl rfl (by omega) (Nat.le_of_ble_eq_true rfl) ?_
    obtain ⟨I4, hI4⟩ : ∃ y_ : ow_I, y_ = ow_u I3 (m + 1) 10 ((-1)) := ⟨_, rfl⟩
    replace hk := lt_k (P := fun r : ow_I => K none (S, r, V, z)) hI4 hk
    refine or_nmI hI4 ?_
    refine or_aload_n E rfl dX11_openFirst_48 ?_
    refine ot_getC E fl_11_7 dX11_openFirst_49 h_m.1 rfl ?_
    refine or_bipush (v := nI 9) E rfl dX11_openFirst_52 ?_
    refine or_iconst (v := nI 0) E rfl dX11_openFirst_54 ?_
    refine ot_iast (j := 9) E dX11_openFirst_55 h_m.2.1 rfl rfl (by omega) (Nat.le_of_ble_eq_true rfl) ?_
    obtain ⟨I5, hI5⟩ : ∃ y_ : ow_I, y_ = ow_u I4 (m + 1) 9 (nI 0) := ⟨_, rfl⟩
    replace hk := lt_k (P := fun r : ow_I => K none (S, r, V, z)) hI5 hk
    refine or_nmI hI5 ?_
    refine or_aload_n E rfl dX11_openFirst_56 ?_
    refine ot_getC E fl_11_7 dX11_openFirst_57 h_m.1 rfl ?_
    refine or_bipush (v := nI 11) E rfl dX11_openFirst_60 ?_
    refine or_iconst (v := nI 0) E rfl dX11_openFirst_62 ?_
    refine ot_iast (j := 11) E dX11_openFirst_63 h_m.2.1 rfl rfl (by omega) (Nat.le_of_ble_eq_true rfl) ?_
    obtain ⟨I6, hI6⟩ : ∃ y_ : ow_I, y_ = ow_u I5 (m + 1) 11 (nI 0) := ⟨_, rfl⟩
    replace hk := lt_k (P := fun r : ow_I => K none (S, r, V, z)) hI6 hk
    refine or_nmI hI6 ?_
    exact or_vret E F dX11_openFirst_64 (Nat.le_refl _) (Nat.le_refl _) hk
  · replace hk := ite_p (P := fun r : ow_I => K none (S, r, V, z)) q7 hk
    exact or_vret E F dX11_openFirst_10 (Nat.le_refl _) (Nat.le_refl _) hk
