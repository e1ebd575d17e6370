theorem fl_10_22 : ow_fl RX10 22 10 2 := ⟨_, rfl, by decide, ow_T_in 536 (by decide +kernel) (by decide +kernel), ow_ok10⟩
theorem fl_10_37 : ow_fl RX10 37 10 5 := ⟨_, rfl, by decide, ow_T_in 539 (by decide +kernel) (by decide +kernel), ow_ok10⟩
theorem fl_10_52 : ow_fl RX10 52 7 0 := ⟨_, rfl, by decide, ow_T_in 306 (by decide +kernel) (by decide +kernel), ow_ok7⟩
theorem fl_10_68 : ow_fl RX10 68 5 1 := ⟨_, rfl, by decide, ow_T_in 257 (by decide +kernel) (by decide +kernel), ow_ok5⟩
theorem lk_10_78 : ow_lv RX10 78 yX5_addFour cX5_addFour 3 none 1 := ⟨ow_T_in 862 (by decide +kernel) (by decide +kernel), ow_T_in 863 (by decide +kernel) (by decide +kernel), ow_T_in 864 (by decide +kernel) (by decide +kernel), ow_T_in 8 (by decide +kernel) (by decide +kernel), ow_T_in 865 (by decide +kernel) (by decide +kernel), ⟨by decide +kernel, by decide +kernel, by decide +kernel⟩⟩
theorem lk_10_82 : ow_lt RX10 82 yX10_requireRange cX10_requireRange 3 none 3 := ⟨ow_T_in 770 (by decide +kernel) (by decide +kernel), ow_T_in 771 (by decide +kernel) (by decide +kernel), ow_T_in 1 (by decide +kernel) (by decide +kernel), ow_T_in 772 (by decide +kernel) (by decide +kernel), ⟨by decide +kernel, by decide +kernel, by decide +kernel⟩⟩
theorem lk_10_97 : ow_lv RX10 97 yX4_remember cX4_remember 2 none 1 := ⟨ow_T_in 871 (by decide +kernel) (by decide +kernel), ow_T_in 872 (by decide +kernel) (by decide +kernel), ow_T_in 873 (by decide +kernel) (by decide +kernel), ow_T_in 6 (by decide +kernel) (by decide +kernel), ow_T_in 874 (by decide +kernel) (by decide +kernel), ⟨by decide +kernel, by decide +kernel, by decide +kernel⟩⟩
theorem lk_10_130 : ow_lv RX10 130 yX6_refusal cX6_refusal 2 (some .int) 1 := ⟨ow_T_in 1041 (by decide +kernel) (by decide +kernel), ow_T_in 1042 (by decide +kernel) (by decide +kernel), ow_T_in 1043 (by decide +kernel) (by decide +kernel), ow_T_in 2 (by decide +kernel) (by decide +kernel), ow_T_in 1044 (by decide +kernel) (by decide +kernel), ⟨by decide +kernel, by decide +kernel, by decide +kernel⟩⟩
theorem lk_10_134 : ow_lt RX10 134 yX10_requireState cX10_requireState 1 none 1 := ⟨ow_T_in 927 (by decide +kernel) (by decide +kernel), ow_T_in 928 (by decide +kernel) (by decide +kernel), ow_T_in 1 (by decide +kernel) (by decide +kernel), ow_T_in 929 (by decide +kernel) (by decide +kernel), ⟨by decide +kernel, by decide +kernel, by decide +kernel⟩⟩
theorem lk_10_138 : ow_lv RX10 138 yX6_takeNod cX6_takeNod 2 none 1 := ⟨ow_T_in 1060 (by decide +kernel) (by decide +kernel), ow_T_in 1061 (by decide +kernel) (by decide +kernel), ow_T_in 1062 (by decide +kernel) (by decide +kernel), ow_T_in 2 (by decide +kernel) (by decide +kernel), ow_T_in 1063 (by decide +kernel) (by decide +kernel), ⟨by decide +kernel, by decide +kernel, by decide +kernel⟩⟩
theorem lk_10_144 : ow_lv RX10 144 yX6_letPass cX6_letPass 4 (some .int) 1 := ⟨ow_T_in 1184 (by decide +kernel) (by decide +kernel), ow_T_in 1185 (by decide +kernel) (by decide +kernel), ow_T_in 1186 (by decide +kernel) (by decide +kernel), ow_T_in 2 (by decide +kernel) (by decide +kernel), ow_T_in 1187 (by decide +kernel) (by decide +kernel), ⟨by decide +kernel, by decide +kernel, by decide +kernel⟩⟩
theorem lk_10_164 : ow_lv RX10 164 yX6_canCut cX6_canCut 3 (some .boolean) 2 := ⟨ow_T_in 1078 (by decide +kernel) (by decide +kernel), ow_T_in 1079 (by decide +kernel) (by decide +kernel), ow_T_in 1080 (by decide +kernel) (by decide +kernel), ow_T_in 2 (by decide +kernel) (by decide +kernel), ow_T_in 1081 (by decide +kernel) (by decide +kernel), ⟨by decide +kernel, by decide +kernel, by decide +kernel⟩⟩
theorem lk_10_168 : ow_lv RX10 168 yX6_cut cX6_cut 7 (some .int) 2 := ⟨ow_T_in 1087 (by decide +kernel) (by decide +kernel), ow_T_in 1088 (by decide +kernel) (by decide +kernel), ow_T_in 1089 (by decide +kernel) (by decide +kernel), ow_T_in 2 (by decide +kernel) (by decide +kernel), ow_T_in 1090 (by decide +kernel) (by decide +kernel), ⟨by decide +kernel, by decide +kernel, by decide +kernel⟩⟩
theorem lk_10_172 : ow_lv RX10 172 yX6_isWaiting cX6_isWaiting 2 (some .boolean) 1 := ⟨ow_T_in 1115 (by decide +kernel) (by decide +kernel), ow_T_in 1083 (by decide +kernel) (by decide +kernel), ow_T_in 1084 (by decide +kernel) (by decide +kernel), ow_T_in 2 (by decide +kernel) (by decide +kernel), ow_T_in 1085 (by decide +kernel) (by decide +kernel), ⟨by decide +kernel, by decide +kernel, by decide +kernel⟩⟩
theorem lk_10_175 : ow_lv RX10 175 yX6_takeAway cX6_takeAway 2 none 1 := ⟨ow_T_in 1116 (by decide +kernel) (by decide +kernel), ow_T_in 1117 (by decide +kernel) (by decide +kernel), ow_T_in 1118 (by decide +kernel) (by decide +kernel), ow_T_in 2 (by decide +kernel) (by decide +kernel), ow_T_in 1119 (by decide +kernel) (by decide +kernel), ⟨by decide +kernel, by decide +kernel, by decide +kernel⟩⟩
theorem lk_10_181 : ow_lv RX10 181 yX6_putCoins cX6_putCoins 4 none 2 := ⟨ow_T_in 1128 (by decide +kernel) (by decide +kernel), ow_T_in 1129 (by decide +kernel) (by decide +kernel), ow_T_in 1130 (by decide +kernel) (by decide +kernel), ow_T_in 2 (by decide +kernel) (by decide +kernel), ow_T_in 1131 (by decide +kernel) (by decide +kernel), ⟨by decide +kernel, by decide +kernel, by decide +kernel⟩⟩
def A_truncate (x : Nat) (n : Int32) (I : ow_I) : Int32 × ow_I :=
  lt (ow_u I ((x + 515) + 1) 1 n) (fun (I1 : ow_I) => (n, I1))
set_option maxRecDepth 100000 in
set_option maxHeartbeats 400000 in
theorem cA_truncate {Z : Nat → Nat} {S : Nat → Option ow_Sh} {I : ow_I} {V : Nat → Nat → Value} {z : Nat} {x : Nat} {n : Int32} (h_x : au_S S x) (h1 : 0 ≤ n) (h2 : n ≤ I (x + 515 + 1) 1) : ow_Cx Z yX10_truncate cX10_truncate 2 (some .int) 1 0 0 [.ref x, .int n] (S, I, V, z) (ox_s S V z 0 (some (.int ((A_truncate x n I).1))) ((A_truncate x n I).2)) := by
  refine ow_Cx.off rfl (Nat.le_of_ble_eq_true rfl) (fun X K E G F hk => ?_)
  have E : ow_E X RX10 cX10_truncate 2 (ow_rm 1 0 0) := E
  refine or_lv [(0, .ref x), (1, .int n)] rfl ?_
  try dsimp only [A_truncate] at hk
  refine or_iload_n E rfl dX10_truncate_0 ?_
  refine or_iconst (v := nI 0) E rfl dX10_truncate_1 ?_
  refine or_aload_n E rfl dX10_truncate_2 ?_
  refine ot_getC E fl_10_37 dX10_truncate_3 h_x.1 rfl ?_
  refine ot_getC E fl_10_52 dX10_truncate_6 h_x.2.2.2.2.2.2.1.1 rfl ?_
  refine ot_getI E fl_10_68 dX10_truncate_9 h_x.2.2.2.2.2.2.1.2.1.1 rfl ?_
  refine or_fT3v (cA_requireRange (Z := Z)   h1 h2) E G F lk_10_82 dX10_truncate_12 (by decide) (by decide) ⟨(Nat.le_of_ble_eq_true rfl), (Nat.le_of_ble_eq_true rfl)⟩ (Nat.le_of_ble_eq_true rfl) (fun _ => ?_) (fun h => absurd h (Nat.lt_irrefl 0))
  refine or_aload_n E rfl dX10_truncate_15 ?_
  refine ot_getC E fl_10_37 dX10_truncate_16 h_x.1 rfl ?_
  refine ot_getC E fl_10_52 dX10_truncate_19 h_x.2.2.2.2.2.2.1.1 rfl ?_
  refine or_iload_n E rfl dX10_truncate_22 ?_
  refine ot_putI E fl_10_68 fw_5_1 dX10_truncate_23 h_x.2.2.2.2.2.2.1.2.1.1 rfl ?_
  obtain ⟨I1, hI1⟩ : ∃ y_ : ow_I, y_ = ow_u I ((x + 515) + 1) 1 n := ⟨_, rfl⟩
  replace hk := lt_k (P := fun r : Int32 × ow_I => ox_e K S V z 0 (some (.int ((r).1))) ((r).2)) hI1 hk
  refine or_nmI hI1 ?_
  refine or_iload_n E rfl dX10_truncate_26 ?_
  try dsimp only at hk
  exact or_xr E F (fun X' E' F' => or_iret E' F' dX10_truncate_27 (Nat.le_of_ble_eq_true rfl) (Nat.le_of_ble_eq_true rfl) (hk.1 rfl))
def A_append (x : Nat) (a : Int32) (b : Int32) (c : Int32) (d : Int32) (e : Int32) (I : ow_I) : Int32 × ow_I :=
  lt (U_addFour ((x + 515) + 1) a I) (fun (I1 : ow_I) => lt (U_addFour ((x + 515) + 1) b I1) (fun (I2 : ow_I) => lt (U_addFour ((x + 515) + 1) c I2) (fun (I3 : ow_I) => lt (U_addFour ((x + 515) + 1) d I3) (fun (I4 : ow_I) => lt (U_addFour ((x + 515) + 1) e I4) (fun (I5 : ow_I) => (I5 ((x + 515) + 1) 1, I5))))))
set_option maxRecDepth 100000 in
set_option maxHeartbeats 400000 in
theorem cA_append {Z : Nat → Nat} {S : Nat → Option ow_Sh} {I : ow_I} {V : Nat → Nat → Value} {z : Nat} {x : Nat} {a : Int32} {b : Int32} {c : Int32} {d : Int32} {e : Int32} (h_x : au_S S x) (hX : au_V x I) (hs : I (x + 515 + 1) 1 + nI 20 ≤ nI 500) : ow_Cx Z yX10_append cX10_append 7 (some .int) 2 0 0 [.ref x, .int a, .int b, .int c, .int d, .int e] (S, I, V, z) (ox_s S V z 0 (some (.int ((A_append x a b c d e I).1))) ((A_append x a b c d e I).2)) := by
  refine ow_Cx.off rfl (Nat.le_of_ble_eq_true rfl) (fun X K E G F hk => ?_)
  have E : ow_E X RX10 cX10_append 7 (ow_rm 2 0 0) := E
  refine or_lv [(0, .ref x), (1, .int a), (2, .int b), (3, .int c), (4, .int d), (5, .int e)] rfl ?_
  have u0 : 0 ≤ I (x + 515 + 1) 1 ∧ tn (I (x + 515 + 1) 1) ≤ 500 := hX.2.2.2.2.2.1
  try dsimp only [A_append] at hk
  refine or_aload_n E rfl dX10_append_0 ?_
  refine ot_getC E fl_10_37 dX10_append_1 h_x.1 rfl ?_
  refine ot_getC E fl_10_52 dX10_append_4 h_x.2.2.2.2.2.2.1.1 rfl ?_
  refine or_astore E dX10_append_7 (by decide) ?_
  refine or_aload E rfl dX10_append_9 ?_
  refine ot_getI E fl_10_68 dX10_append_11 h_x.2.2.2.2.2.2.1.2.1.1 rfl ?_
  refine or_bipush (v := nI 20) E rfl dX10_append_14 ?_
  refine or_iadd E dX10_append_16 ?_
  refine or_sipush (v := nI 500) E rfl dX10_append_17 ?_
  refine or_icmp_le 33 E dX10_append_20 rfl (fun q20 => ?_) (fun q20 => (hr_2 hs) q20)
  refine or_aload E rfl dX10_append_33 ?_
  refine or_iload_n E rfl dX10_append_35 ?_
  refine or_cV1v (cU_addFour  h_x.2.2.2.2.2.2.1.2.1 u0.1 u0.2) E lk_10_78 dX10_append_36 h_x.2.2.2.2.2.2.1.2.1.1 rfl rfl (by decide) (by decide) ⟨(Nat.le_of_ble_eq_true rfl), (Nat.le_of_ble_eq_true rfl)⟩ (Nat.le_of_ble_eq_true rfl) ?_
  obtain ⟨I1, hI1⟩ : ∃ y_ : ow_I, y_ = U_addFour ((x + 515) + 1) a I := ⟨_, rfl⟩
  replace hk := lt_k (P := fun r : Int32 × ow_I => ox_e K S V z 0 (some (.int ((r).1))) ((r).2)) hI1 hk
  refine or_nmI hI1 ?_
  have u1 : 0 ≤ I1 (x + 515 + 1) 1 ∧ tn (I1 (x + 515 + 1) 1) ≤ 500 := by rw [hI1]; exact af_1 u0
  refine or_aload E rfl dX10_append_39 ?_
  refine or_iload_n E rfl dX10_append_41 ?_
  refine or_cV1v (cU_addFour  h_x.2.2.2.2.2.2.1.2.1 u1.1 u1.2) E lk_10_78 dX10_append_42 h_x.2.2.2.2.2.2.1.2.1.1 rfl rfl (by decide) (by decide) ⟨(Nat.le_of_ble_eq_true rfl), (Nat.le_of_ble_eq_true rfl)⟩ (Nat.le_of_ble_eq_true rfl) ?_
  obtain ⟨I2, hI2⟩ : ∃ y_ : ow_I, y_ = U_addFour ((x + 515) + 1) b I1 := ⟨_, rfl⟩
  replace hk := lt_k (P := fun r : Int32 × ow_I => ox_e K S V z 0 (some (.int ((r).1))) ((r).2)) hI2 hk
  refine or_nmI hI2 ?_
  have u2 : 0 ≤ I2 (x + 515 + 1) 1 ∧ tn (I2 (x + 515 + 1) 1) ≤ 500 := by rw [hI2]; exact af_1 u1
  refine or_aload E rfl dX10_append_45 ?_
  refine or_iload_n E rfl dX10_append_47 ?_
  refine or_cV1v (cU_addFour  h_x.2.2.2.2.2.2.1.2.1 u2.1 u2.2) E lk_10_78 dX10_append_48 h_x.2.2.2.2.2.2.1.2.1.1 rfl rfl (by decide) (by decide) ⟨(Nat.le_of_ble_eq_true rfl), (Nat.le_of_ble_eq_true rfl)⟩ (Nat.le_of_ble_eq_true rfl) ?_
  obtain ⟨I3, hI3⟩ : ∃ y_ : ow_I, y_ = U_addFour ((x + 515) + 1) c I2 := ⟨_, rfl⟩
  replace hk := lt_k (P := fun r : Int32 × ow_I => ox_e K S V z 0 (some (.int ((r).1))) ((r).2)) hI3 hk
  refine or_nmI hI3 ?_
  have u3 : 0 ≤ I3 (x + 515 + 1) 1 ∧ tn (I3 (x + 515 + 1) 1) ≤ 500 := by rw [hI3]; exact af_1 u2
  refine or_aload E rfl dX10_append_51 ?_
  refine or_iload E rfl dX10_append_53 ?_
  refine or_cV1v (cU_addFour  h_x.2.2.2.2.2.2.1.2.1 u3.1 u3.2) E lk_10_78 dX10_append_55 h_x.2.2.2.2.2.2.1.2.1.1 rfl rfl (by decide) (by decide) ⟨(Nat.le_of_ble_eq_true rfl), (Nat.le_of_ble_eq_true rfl)⟩ (Nat.le_of_ble_eq_true rfl) ?_
  obtain ⟨I4, hI4⟩ : ∃ y_ : ow_I, y_ = U_addFour ((x + 515) + 1) d I3 := ⟨_, rfl⟩
  replace hk := lt_k (P := fun r : Int32 × ow_I => ox_e K S V z 0 (some (.int ((r).1))) ((r).2)) hI4 hk
  refine or_nmI hI4 ?_
  have u4 : 0 ≤ I4 (x + 515 + 1) 1 ∧ tn (I4 (x + 515 + 1) 1) ≤ 500 := by rw [hI4]; exact af_1 u3
  refine or_aload E rfl dX10_append_58 ?_
  refine or_iload E rfl dX10_append_60 ?_
  refine or_cV1v (cU_addFour  h_x.2.2.2.2.2.2.1.2.1 u4.1 u4.2) E lk_10_78 dX10_append_62 h_x.2.2.2.2.2.2.1.2.1.1 rfl rfl (by decide) (by decide) ⟨(Nat.le_of_ble_eq_true rfl), (Nat.le_of_ble_eq_true rfl)⟩ (Nat.le_of_ble_eq_true rfl) ?_
  obtain ⟨I5, hI5⟩ : ∃ y_ : ow_I, y_ = U_addFour ((x + 515) + 1) e I4 := ⟨_, rfl⟩
  replace hk := lt_k (P := fun r : Int32 × ow_I => ox_e K S V z 0 (some (.int ((r).1))) ((r).2)) hI5 hk
  refine or_nmI hI5 ?_
  have u5 : 0 ≤ I5 (x + 515 + 1) 1 ∧ tn (I5 (x + 515 + 1) 1) ≤ 500 := by rw [hI5]; exact af_1 u4
  refine or_aload E rfl dX10_append_65 ?_
  refine ot_getI E fl_10_68 dX10_append_67 h_x.2.2.2.2.2.2.1.2.1.1 rfl ?_
  try dsimp only at hk
  exact or_xr E F (fun X' E' F' => or_iret E' F' dX10_append_70 (Nat.le_of_ble_eq_true rfl) (Nat.le_of_ble_eq_true rfl) (hk.1 rfl))
def A_passMinutes (x : Nat) (m : Int32) (I : ow_I) : Int32 × ow_I :=
  lt (H_remember (x + 103) (x + 1) I) (fun (I1 : ow_I) => lt (K_letPass (x + 1) (tn m) I1) (fun (r2 : Int32 × ow_I) => (r2.1, r2.2)))
set_option maxRecDepth 100000 in
set_option maxHeartbeats 400000 in
theorem cA_passMinutes {Z : Nat → Nat} {S : Nat → Option ow_Sh} {I : ow_I} {V : Nat → Nat → Value} {z : Nat} {x : Nat} {m : Int32} (h_x : au_S S x) (hX : au_V x I) (h1 : nI 1 ≤ m) (h2 : m ≤ nI 200) : ow_Cx Z yX10_passMinutes cX10_passMinutes 2 (some .int) 5 0 0 [.ref x, .int m] (S, I, V, z) (ox_s S V z 0 (some (.int ((A_passMinutes x m I).1))) ((A_passMinutes x m I).2)) := by
  refine ow_Cx.off rfl (Nat.le_of_ble_eq_true rfl) (fun X K E G F hk => ?_)
  have E : ow_E X RX10 cX10_passMinutes 2 (ow_rm 5 0 0) := E
  refine or_lv [(0, .ref x), (1, .int m)] rfl ?_
  try dsimp only [A_passMinutes] at hk
  refine or_iload_n E rfl dX10_passMinutes_0 ?_
  refine or_iconst (v := nI 1) E rfl dX10_passMinutes_1 ?_
  refine or_sipush (v := nI 200) E rfl dX10_passMinutes_2 ?_
  refine or_fT3v (cA_requireRange (Z := Z)   h1 h2) E G F lk_10_82 dX10_passMinutes_5 (by decide) (by decide) ⟨(Nat.le_of_ble_eq_true rfl), (Nat.le_of_ble_eq_true rfl)⟩ (Nat.le_of_ble_eq_true rfl) (fun _ => ?_) (fun h => absurd h (Nat.lt_irrefl 0))
  refine or_aload_n E rfl dX10_passMinutes_8 ?_
  refine ot_getC E fl_10_22 dX10_passMinutes_9 h_x.1 rfl ?_
  refine or_aload_n E rfl dX10_passMinutes_12 ?_
  refine ot_getC E fl_10_10 dX10_passMinutes_13 h_x.1 rfl ?_
  refine or_cV1v (cH_remember  h_x.2.2.2.1 h_x.2.1 (by omega) hX.2.2.2.2.1.1 hX.2.2.2.2.1.2 hX.1.1.1 hX.1.1.2 hX.1.2.1.1 hX.1.2.1.2) E lk_10_97 dX10_passMinutes_16 h_x.2.2.2.1.1 rfl rfl (by decide) (by decide) ⟨(Nat.le_of_ble_eq_true rfl), (Nat.le_of_ble_eq_true rfl)⟩ (Nat.le_of_ble_eq_true rfl) ?_
  obtain ⟨I1, hI1⟩ : ∃ y_ : ow_I, y_ = H_remember (x + 103) (x + 1) I := ⟨_, rfl⟩
  replace hk := lt_k (P := fun r : Int32 × ow_I => ox_e K S V z 0 (some (.int ((r).1))) ((r).2)) hI1 hk
  refine or_nmI hI1 ?_
  refine or_aload_n E rfl dX10_passMinutes_19 ?_
  refine ot_getC E fl_10_10 dX10_passMinutes_20 h_x.1 rfl ?_
  refine or_iload_n E rfl dX10_passMinutes_23 ?_
  refine or_top (nI_tn (by subst hI1; exact (n0_le (by decide) h1))).symm ?_
  refine or_cV1r (cK_letPass  h_x.2.1 (by subst hI1; exact (tn_lt _)) (by subst hI1; exact (fun n => kV_it n _ (kV_rem hX)))) E lk_10_144 dX10_passMinutes_24 h_x.2.1.1 rfl rfl (by decide) (by decide) ⟨(Nat.le_of_ble_eq_true rfl), (Nat.le_of_ble_eq_true rfl)⟩ (Nat.le_of_ble_eq_true rfl) ?_
  obtain ⟨r2, hr2⟩ : ∃ y_ : Int32 × ow_I, y_ = K_letPass (x + 1) (tn m) I1 := ⟨_, rfl⟩
  replace hk := lt_k (P := fun r : Int32 × ow_I => ox_e K S V z 0 (some (.int ((r).1))) ((r).2)) hr2 hk
  refine or_nmJ hr2 ?_
  try dsimp only at hk
  exact or_xr E F (fun X' E' F' => or_iret E' F' dX10_passMinutes_27 (Nat.le_of_ble_eq_true rfl) (Nat.le_of_ble_eq_true rfl) (hk.1 rfl))
def A_nod (x : Nat) (y : Int32) (I : ow_I) : Nat × Int32 × ow_I :=
  if K_refusal (x + 1) y I = 0 then if A_requireState true I = 0 then lt (H_remember (x + 103) (x + 1) I) (fun (I3 : ow_I) => lt (K_takeNod (x + 1) y I3) (fun (I4 : ow_I) => (0, I4 (x + 1) 14, I4))) else (A_requireState true I, 0, I) else if A_requireState false I = 0 then lt (H_remember (x + 103) (x + 1) I) (fun (I1 : ow_I) => lt (K_takeNod (x + 1) y I1) (fun (I2 : ow_I) => (0, I2 (x + 1) 14, I2))) else (A_requireState false I, 0, I)
set_option maxRecDepth 100000 in
set_option maxHeartbeats 400000 in
theorem cA_nod {Z : Nat → Nat} {S : Nat → Option ow_Sh} {I : ow_I} {V : Nat → Nat → Value} {z : Nat} {x : Nat} {y : Int32} (h_x : au_S S x) (hX : au_V x I) (hy : 0 ≤ y ∧ tn y < tn (I (x + 1) 8)) : ow_Cx Z yX10_nod cX10_nod 2 (some .int) 10 1 6 [.ref x, .int y] (S, I, V, z) (ox_s S V z ((A_nod x y I).1) (some (.int ((A_nod x y I).2.1))) ((A_nod x y I).2.2)) := by
  refine ow_Cx.off rfl (Nat.le_of_ble_eq_true rfl) (fun X K E G F hk => ?_)
  have E : ow_E X RX10 cX10_nod 2 (ow_rm 10 1 6) := E
  refine or_lv [(0, .ref x), (1, .int y)] rfl ?_
  try dsimp only [A_nod] at hk
  refine or_aload_n E rfl dX10_nod_0 ?_
  refine or_iload_n E rfl dX10_nod_1 ?_
  refine or_fV1v (cA_requireBuyer (Z := Z)  h_x hy) E G F lk_10_127 dX10_nod_2 h_x.1 rfl rfl (by decide) (by decide) ⟨(Nat.le_of_ble_eq_true rfl), (Nat.le_of_ble_eq_true rfl)⟩ (Nat.le_of_ble_eq_true rfl) (fun _ => ?_) (fun h => absurd h (Nat.lt_irrefl 0))
  refine or_aload_n E rfl dX10_nod_5 ?_
  refine ot_getC E fl_10_10 dX10_nod_6 h_x.1 rfl ?_
  refine or_iload_n E rfl dX10_nod_9 ?_
  refine or_cV1r (cK_refusal  h_x.2.1 hX.1) E lk_10_130 dX10_nod_10 h_x.2.1.1 rfl rfl (by decide) (by decide) ⟨(Nat.le_of_ble_eq_true rfl), (Nat.le_of_ble_eq_true rfl)⟩ (Nat.le_of_ble_eq_true rfl) ?_
  refine or_if_ne 20 E dX10_nod_13 rfl (fun q13 => ?_) (fun q13 => ?_)
  · replace hk := ite_n (P := fun r : Nat × Int32 × ow_I => ox_e K S V z ((r).1) (some (.int ((r).2.1))) ((r).2.2)) q13 hk
    refine or_iconst (v := nI 0) E rfl dX10_nod_20 ?_
    refine or_fT1v (cA_requireState (Z := Z) (b := false)  ) E G F lk_10_134 dX10_nod_21 (by decide) (by decide) ⟨(Nat.le_of_ble_eq_true rfl), (Nat.le_of_ble_eq_true rfl)⟩ (Nat.le_of_ble_eq_true rfl) (fun q21 => ?_) (fun q21 => (ite_n (P := fun r : Nat × Int32 × ow_I => ox_e K S V z ((r).1) (some (.int ((r).2.1))) ((r).2.2)) (Nat.pos_iff_ne_zero.mp q21) hk).2 q21)
    replace hk := ite_p (P := fun r : Nat × Int32 × ow_I => ox_e K S V z ((r).1) (some (.int ((r).2.1))) ((r).2.2)) q21 hk
    refine or_aload_n E rfl dX10_nod_24 ?_
    refine ot_getC E fl_10_22 dX10_nod_25 h_x.1 rfl ?_
    refine or_aload_n E rfl dX10_nod_28 ?_
    refine ot_getC E fl_10_10 dX10_nod_29 h_x.1 rfl ?_
    refine or_cV1v (cH_remember  h_x.2.2.2.1 h_x.2.1 (by omega) hX.2.2.2.2.1.1 hX.2.2.2.2.1.2 hX.1.1.1 hX.1.1.2 hX.1.2.1.1 hX.1.2.1.2) E lk_10_97 dX10_nod_32 h_x.2.2.2.1.1 rfl rfl (by decide) (by decide) ⟨(Nat.le_of_ble_eq_true rfl), (Nat.le_of_ble_eq_true rfl)⟩ (Nat.le_of_ble_eq_true rfl) ?_
    obtain ⟨I1, hI1⟩ : ∃ y_ : ow_I, y_ = H_remember (x + 103) (x + 1) I := ⟨_, rfl⟩
    replace hk := lt_k (P := fun r : Nat × Int32 × ow_I => ox_e K S V z ((r).1) (some (.int ((r).2.1))) ((r).2.2)) hI1 hk
    refine or_nmI hI1 ?_
    refine or_aload_n E rfl dX10_nod_35 ?_
    refine ot_getC E fl_10_10 dX10_nod_36 h_x.1 rfl ?_
    refine or_iload_n E rfl dX10_nod_39 ?_
    refine or_cV1v (cK_takeNod  h_x.2.1 (by subst hI1; exact (kV_rem hX))) E lk_10_138 dX10_nod_40 h_x.2.1.1 rfl rfl (by decide) (by decide) ⟨(Nat.le_of_ble_eq_true rfl), (Nat.le_of_ble_eq_true rfl)⟩ (Nat.le_of_ble_eq_true rfl) ?_
    obtain ⟨I2, hI2⟩ : ∃ y_ : ow_I, y_ = K_takeNod (x + 1) y I1 := ⟨_, rfl⟩
    replace hk := lt_k (P := fun r : Nat × Int32 × ow_I => ox_e K S V z ((r).1) (some (.int ((r).2.1))) ((r).2.2)) hI2 hk
    refine or_nmI hI2 ?_
    refine or_aload_n E rfl dX10_nod_43 ?_
    refine ot_getC E fl_10_10 dX10_nod_44 h_x.1 rfl ?_
    refine ot_getI E fl_10_141 dX10_nod_47 h_x.2.1.1 rfl ?_
    try dsimp only at hk
    exact or_xr E F (fun X' E' F' => or_iret E' F' dX10_nod_50 (Nat.le_of_ble_eq_true rfl) (Nat.le_of_ble_eq_true rfl) (hk.1 rfl))
  · replace hk := ite_p (P := fun r : Nat × Int32 × ow_I => ox_e K S V z ((r).1) (some (.int ((r).2.1))) ((r).2.2)) q13 hk
    refine or_iconst (v := nI 1) E rfl dX10_nod_16 ?_
    refine or_goto 21 E dX10_nod_17 rfl ?_
    refine or_fT1v (cA_requireState (Z := Z) (b := true)  ) E G F lk_10_134 dX10_nod_21 (by decide) (by decide) ⟨(Nat.le_of_ble_eq_true rfl), (Nat.le_of_ble_eq_true rfl)⟩ (Nat.le_of_ble_eq_true rfl) (fun q21 => ?_) (fun q21 => (ite_n (P := fun r : Nat × Int32 × ow_I => ox_e K S V z ((r).1) (some (.int ((r).2.1))) ((r).2.2)) (Nat.pos_iff_ne_zero.mp q21) hk).2 q21)
    replace hk := ite_p (P := fun r : Nat × Int32 × ow_I => ox_e K S V z ((r).1) (some (.int ((r).2.1))) ((r).2.2)) q21 hk
    refine or_aload_n E rfl dX10_nod_24 ?_
    refine ot_getC E fl_10_22 dX10_nod_25 h_x.1 rfl ?_
    refine or_aload_n E rfl dX10_nod_28 ?_
    refine ot_getC E fl_10_10 dX10_nod_29 h_x.1 rfl ?_
    refine or_cV1v (cH_remember  h_x.2.2.2.1 h_x.2.1 (by omega) hX.2.2.2.2.1.1 hX.2.2.2.2.1.2 hX.1.1.1 hX.1.1.2 hX.1.2.1.1 hX.1.2.1.2) E lk_10_97 dX10_nod_32 h_x.2.2.2.1.1 rfl rfl (by decide) (by decide) ⟨(Nat.le_of_ble_eq_true rfl), (Nat.le_of_ble_eq_true rfl)⟩ (Nat.le_of_ble_eq_true rfl) ?_
    obtain ⟨I3, hI3⟩ : ∃ y_ : ow_I, y_ = H_remember (x + 103) (x + 1) I := ⟨_, rfl⟩
    replace hk := lt_k (P := fun r : Nat × Int32 × ow_I => ox_e K S V z ((r).1) (some (.int ((r).2.1))) ((r).2.2)) hI3 hk
    refine or_nmI hI3 ?_
    refine or_aload_n E rfl dX10_nod_35 ?_
    refine ot_getC E fl_10_10 dX10_nod_36 h_x.1 rfl ?_
    refine or_iload_n E rfl dX10_nod_39 ?_
    refine or_cV1v (cK_takeNod  h_x.2.1 (by subst hI3; exact (kV_rem hX))) E lk_10_138 dX10_nod_40 h_x.2.1.1 rfl rfl (by decide) (by decide) ⟨(Nat.le_of_ble_eq_true rfl), (Nat.le_of_ble_eq_true rfl)⟩ (Nat.le_of_ble_eq_true rfl) ?_
    obtain ⟨I4, hI4⟩ : ∃ y_ : ow_I, y_ = K_takeNod (x + 1) y I3 := ⟨_, rfl⟩
    replace hk := lt_k (P := fun r : Nat × Int32 × ow_I => ox_e K S V z ((r).1) (some (.int ((r).2.1))) ((r).2.2)) hI4 hk
    refine or_nmI hI4 ?_
    refine or_aload_n E rfl dX10_nod_43 ?_
    refine ot_getC E fl_10_10 dX10_nod_44 h_x.1 rfl ?_
    refine ot_getI E fl_10_141 dX10_nod_47 h_x.2.1.1 rfl ?_
    try dsimp only at hk
    exact or_xr E F (fun X' E' F' => or_iret E' F' dX10_nod_50 (Nat.le_of_ble_eq_true rfl) (Nat.le_of_ble_eq_true rfl) (hk.1 rfl))
def A_split (x : Nat) (b : Int32) (n : Int32) (I : ow_I) : Nat × Int32 × ow_I :=
  if A_requireState (K_canCut (x + 1) b n I) I = 0 then lt (H_remember (x + 103) (x + 1) I) (fun (I1 : ow_I) => lt (K_cut (x + 1) b n I1) (fun (r2 : Int32 × ow_I) => (0, r2.1, r2.2))) else (A_requireState (K_canCut (x + 1) b n I) I, 0, I)
set_option maxRecDepth 100000 in
set_option maxHeartbeats 400000 in
theorem cA_split {Z : Nat → Nat} {S : Nat → Option ow_Sh} {I : ow_I} {V : Nat → Nat → Value} {z : Nat} {x : Nat} {b : Int32} {n : Int32} (h_x : au_S S x) (hX : au_V x I) (hb : 0 ≤ b ∧ tn b < tn (I (x + 1) 10)) (hr : nI 1 ≤ n ∧ n ≤ nI 8) : ow_Cx Z yX10_split cX10_split 3 (some .int) 10 1 6 [.ref x, .int b, .int n] (S, I, V, z) (ox_s S V z ((A_split x b n I).1) (some (.int ((A_split x b n I).2.1))) ((A_split x b n I).2.2)) := by
  refine ow_Cx.off rfl (Nat.le_of_ble_eq_true rfl) (fun X K E G F hk => ?_)
  have E : ow_E X RX10 cX10_split 3 (ow_rm 10 1 6) := E
  refine or_lv [(0, .ref x), (1, .int b), (2, .int n)] rfl ?_
  try dsimp only [A_split] at hk
  refine or_aload_n E rfl dX10_split_0 ?_
  refine or_iload_n E rfl dX10_split_1 ?_
  refine or_fV1v (cA_requireBarrel (Z := Z)  h_x hb) E G F lk_10_161 dX10_split_2 h_x.1 rfl rfl (by decide) (by decide) ⟨(Nat.le_of_ble_eq_true rfl), (Nat.le_of_ble_eq_true rfl)⟩ (Nat.le_of_ble_eq_true rfl) (fun _ => ?_) (fun h => absurd h (Nat.lt_irrefl 0))
  refine or_iload_n E rfl dX10_split_5 ?_
  refine or_iconst (v := nI 1) E rfl dX10_split_6 ?_
  refine or_bipush (v := nI 8) E rfl dX10_split_7 ?_
  refine or_fT3v (cA_requireRange (Z := Z)   hr.1 hr.2) E G F lk_10_82 dX10_split_9 (by decide) (by decide) ⟨(Nat.le_of_ble_eq_true rfl), (Nat.le_of_ble_eq_true rfl)⟩ (Nat.le_of_ble_eq_true rfl) (fun _ => ?_) (fun h => absurd h (Nat.lt_irrefl 0))
  refine or_aload_n E rfl dX10_split_12 ?_
  refine ot_getC E fl_10_10 dX10_split_13 h_x.1 rfl ?_
  refine or_iload_n E rfl dX10_split_16 ?_
  refine or_iload_n E rfl dX10_split_17 ?_
  refine or_cV2r (cK_canCut  h_x.2.1 hX.1) E lk_10_164 dX10_split_18 h_x.2.1.1 rfl rfl (by decide) (by decide) ⟨(Nat.le_of_ble_eq_true rfl), (Nat.le_of_ble_eq_true rfl)⟩ (Nat.le_of_ble_eq_true rfl) ?_
  refine or_fT1v (cA_requireState (Z := Z)   ) E G F lk_10_134 dX10_split_21 (by decide) (by decide) ⟨(Nat.le_of_ble_eq_true rfl), (Nat.le_of_ble_eq_true rfl)⟩ (Nat.le_of_ble_eq_true rfl) (fun q21 => ?_) (fun q21 => (ite_n (P := fun r : Nat × Int32 × ow_I => ox_e K S V z ((r).1) (some (.int ((r).2.1))) ((r).2.2)) (Nat.pos_iff_ne_zero.mp q21) hk).2 q21)
  replace hk := ite_p (P := fun r : Nat × Int32 × ow_I => ox_e K S V z ((r).1) (some (.int ((r).2.1))) ((r).2.2)) q21 hk
  refine or_aload_n E rfl dX10_split_24 ?_
  refine ot_getC E fl_10_22 dX10_split_25 h_x.1 rfl ?_
  refine or_aload_n E rfl dX10_split_28 ?_
  refine ot_getC E fl_10_10 dX10_split_29 h_x.1 rfl ?_
  refine or_cV1v (cH_remember  h_x.2.2.2.1 h_x.2.1 (by omega) hX.2.2.2.2.1.1 hX.2.2.2.2.1.2 hX.1.1.1 hX.1.1.2 hX.1.2.1.1 hX.1.2.1.2) E lk_10_97 dX10_split_32 h_x.2.2.2.1.1 rfl rfl (by decide) (by decide) ⟨(Nat.le_of_ble_eq_true rfl), (Nat.le_of_ble_eq_true rfl)⟩ (Nat.le_of_ble_eq_true rfl) ?_
  obtain ⟨I1, hI1⟩ : ∃ y_ : ow_I, y_ = H_remember (x + 103) (x + 1) I := ⟨_, rfl⟩
  replace hk := lt_k (P := fun r : Nat × Int32 × ow_I => ox_e K S V z ((r).1) (some (.int ((r).2.1))) ((r).2.2)) hI1 hk
  refine or_nmI hI1 ?_
  refine or_aload_n E rfl dX10_split_35 ?_
  refine ot_getC E fl_10_10 dX10_split_36 h_x.1 rfl ?_
  refine or_iload_n E rfl dX10_split_39 ?_
  refine or_iload_n E rfl dX10_split_40 ?_
  refine or_cV2r (cK_cut  h_x.2.1 (by subst hI1; exact (kV_rem hX))) E lk_10_168 dX10_split_41 h_x.2.1.1 rfl rfl (by decide) (by decide) ⟨(Nat.le_of_ble_eq_true rfl), (Nat.le_of_ble_eq_true rfl)⟩ (Nat.le_of_ble_eq_true rfl) ?_
  obtain ⟨r2, hr2⟩ : ∃ y_ : Int32 × ow_I, y_ = K_cut (x + 1) b n I1 := ⟨_, rfl⟩
  replace hk := lt_k (P := fun r : Nat × Int32 × ow_I => ox_e K S V z ((r).1) (some (.int ((r).2.1))) ((r).2.2)) hr2 hk
  refine or_nmJ hr2 ?_
  try dsimp only at hk
  exact or_xr E F (fun X' E' F' => or_iret E' F' dX10_split_44 (Nat.le_of_ble_eq_true rfl) (Nat.le_of_ble_eq_true rfl) (hk.1 rfl))
def A_withdraw (x : Nat) (b : Int32) (I : ow_I) : Nat × Int32 × ow_I :=
  if A_requireState (K_isWaiting (x + 1) b I) I = 0 then lt (H_remember (x + 103) (x + 1) I) (fun (I1 : ow_I) => lt (K_takeAway (x + 1) b I1) (fun (I2 : ow_I) => (0, I2 (x + 1) 12, I2))) else (A_requireState (K_isWaiting (x + 1) b I) I, 0, I)
set_option maxRecDepth 100000 in
set_option maxHeartbeats 400000 in
theorem cA_withdraw {Z : Nat → Nat} {S : Nat → Option ow_Sh} {I : ow_I} {V : Nat → Nat → Value} {z : Nat} {x : Nat} {b : Int32} (h_x : au_S S x) (hX : au_V x I) (hb : 0 ≤ b ∧ tn b < tn (I (x + 1) 10)) : ow_Cx Z yX10_withdraw cX10_withdraw 2 (some .int) 10 1 6 [.ref x, .int b] (S, I, V, z) (ox_s S V z ((A_withdraw x b I).1) (some (.int ((A_withdraw x b I).2.1))) ((A_withdraw x b I).2.2)) := by
  refine ow_Cx.off rfl (Nat.le_of_ble_eq_true rfl) (fun X K E G F hk => ?_)
  have E : ow_E X RX10 cX10_withdraw 2 (ow_rm 10 1 6) := E
  refine or_lv [(0, .ref x), (1, .int b)] rfl ?_
  try dsimp only [A_withdraw] at hk
  refine or_aload_n E rfl dX10_withdraw_0 ?_
  refine or_iload_n E rfl dX10_withdraw_1 ?_
  refine or_fV1v (cA_requireBarrel (Z := Z)  h_x hb) E G F lk_10_161 dX10_withdraw_2 h_x.1 rfl rfl (by decide) (by decide) ⟨(Nat.le_of_ble_eq_true rfl), (Nat.le_of_ble_eq_true rfl)⟩ (Nat.le_of_ble_eq_true rfl) (fun _ => ?_) (fun h => absurd h (Nat.lt_irrefl 0))
  refine or_aload_n E rfl dX10_withdraw_5 ?_
  refine ot_getC E fl_10_10 dX10_withdraw_6 h_x.1 rfl ?_
  refine or_iload_n E rfl dX10_withdraw_9 ?_
  refine or_cV1r (cK_isWaiting  h_x.2.1 hX.1) E lk_10_172 dX10_withdraw_10 h_x.2.1.1 rfl rfl (by decide) (by decide) ⟨(Nat.le_of_ble_eq_true rfl), (Nat.le_of_ble_eq_true rfl)⟩ (Nat.le_of_ble_eq_true rfl) ?_
  refine or_fT1v (cA_requireState (Z := Z)   ) E G F lk_10_134 dX10_withdraw_13 (by decide) (by decide) ⟨(Nat.le_of_ble_eq_true rfl), (Nat.le_of_ble_eq_true rfl)⟩ (Nat.le_of_ble_eq_true rfl) (fun q13 => ?_) (fun q13 => (ite_n (P := fun r : Nat × Int32 × ow_I => ox_e K S V z ((r).1) (some (.int ((r).2.1))) ((r).2.2)) (Nat.pos_iff_ne_zero.mp q13) hk).2 q13)
  replace hk := ite_p (P := fun r : Nat × Int32 × ow_I => ox_e K S V z ((r).1) (some (.int ((r).2.1))) ((r).2.2)) q13 hk
  refine or_aload_n E rfl dX10_withdraw_16 ?_
  refine ot_getC E fl_10_22 dX10_withdraw_17 h_x.1 rfl ?_
  refine or_aload_n E rfl dX10_withdraw_20 ?_
  refine ot_getC E fl_10_10 dX10_withdraw_21 h_x.1 rfl ?_
  refine or_cV1v (cH_remember  h_x.2.2.2.1 h_x.2.1 (by omega) hX.2.2.2.2.1.1 hX.2.2.2.2.1.2 hX.1.1.1 hX.1.1.2 hX.1.2.1.1 hX.1.2.1.2) E lk_10_97 dX10_withdraw_24 h_x.2.2.2.1.1 rfl rfl (by decide) (by decide) ⟨(Nat.le_of_ble_eq_true rfl), (Nat.le_of_ble_eq_true rfl)⟩ (Nat.le_of_ble_eq_true rfl) ?_
  obtain ⟨I1, hI1⟩ : ∃ y_ : ow_I, y_ = H_remember (x + 103) (x + 1) I := ⟨_, rfl⟩
  replace hk := lt_k (P := fun r : Nat × Int32 × ow_I => ox_e K S V z ((r).1) (some (.int ((r).2.1))) ((r).2.2)) hI1 hk
  refine or_nmI hI1 ?_
  refine or_aload_n E rfl dX10_withdraw_27 ?_
  refine ot_getC E fl_10_10 dX10_withdraw_28 h_x.1 rfl ?_
  refine or_iload_n E rfl dX10_withdraw_31 ?_
  refine or_cV1v (cK_takeAway  h_x.2.1 (by subst hI1; exact (kV_rem hX))) E lk_10_175 dX10_withdraw_32 h_x.2.1.1 rfl rfl (by decide) (by decide) ⟨(Nat.le_of_ble_eq_true rfl), (Nat.le_of_ble_eq_true rfl)⟩ (Nat.le_of_ble_eq_true rfl) ?_
  obtain ⟨I2, hI2⟩ : ∃ y_ : ow_I, y_ = K_takeAway (x + 1) b I1 := ⟨_, rfl⟩
  replace hk := lt_k (P := fun r : Nat × Int32 × ow_I => ox_e K S V z ((r).1) (some (.int ((r).2.1))) ((r).2.2)) hI2 hk
  refine or_nmI hI2 ?_
  refine or_aload_n E rfl dX10_withdraw_35 ?_
  refine ot_getC E fl_10_10 dX10_withdraw_36 h_x.1 rfl ?_
  refine ot_getI E fl_10_178 dX10_withdraw_39 h_x.2.1.1 rfl ?_
  try dsimp only at hk
  exact or_xr E F (fun X' E' F' => or_iret E' F' dX10_withdraw_42 (Nat.le_of_ble_eq_true rfl) (Nat.le_of_ble_eq_true rfl) (hk.1 rfl))
def A_fund (x : Nat) (y : Int32) (c : Int32) (I : ow_I) : Int32 × ow_I :=
  lt (H_remember (x + 103) (x + 1) I) (fun (I1 : ow_I) => lt (K_putCoins (x + 1) y c I1) (fun (I2 : ow_I) => (I2 ((x + 1) + 5 + (tn y)) 0, I2)))
set_option maxRecDepth 100000 in
set_option maxHeartbeats 400000 in
theorem cA_fund {Z : Nat → Nat} {S : Nat → Option ow_Sh} {I : ow_I} {V : Nat → Nat → Value} {z : Nat} {x : Nat} {y : Int32} {c : Int32} (h_x : au_S S x) (hX : au_V x I) (hy : 0 ≤ y ∧ tn y < tn (I (x + 1) 8)) (h1 : nI 1 ≤ c) (h2 : c ≤ nI 9999) : ow_Cx Z yX10_fund cX10_fund 3 (some .int) 4 0 0 [.ref x, .int y, .int c] (S, I, V, z) (ox_s S V z 0 (some (.int ((A_fund x y c I).1))) ((A_fund x y c I).2)) := by
  refine ow_Cx.off rfl (Nat.le_of_ble_eq_true rfl) (fun X K E G F hk => ?_)
  have E : ow_E X RX10 cX10_fund 3 (ow_rm 4 0 0) := E
  refine or_lv [(0, .ref x), (1, .int y), (2, .int c)] rfl ?_
  have hV := hX.1
  try dsimp only [A_fund] at hk
  refine or_aload_n E rfl dX10_fund_0 ?_
  refine or_iload_n E rfl dX10_fund_1 ?_
  refine or_fV1v (cA_requireBuyer (Z := Z)  h_x hy) E G F lk_10_127 dX10_fund_2 h_x.1 rfl rfl (by decide) (by decide) ⟨(Nat.le_of_ble_eq_true rfl), (Nat.le_of_ble_eq_true rfl)⟩ (Nat.le_of_ble_eq_true rfl) (fun _ => ?_) (fun h => absurd h (Nat.lt_irrefl 0))
  refine or_iload_n E rfl dX10_fund_5 ?_
  refine or_iconst (v := nI 1) E rfl dX10_fund_6 ?_
  refine or_sipush (v := nI 9999) E rfl dX10_fund_7 ?_
  refine or_fT3v (cA_requireRange (Z := Z)   h1 h2) E G F lk_10_82 dX10_fund_10 (by decide) (by decide) ⟨(Nat.le_of_ble_eq_true rfl), (Nat.le_of_ble_eq_true rfl)⟩ (Nat.le_of_ble_eq_true rfl) (fun _ => ?_) (fun h => absurd h (Nat.lt_irrefl 0))
  refine or_aload_n E rfl dX10_fund_13 ?_
  refine ot_getC E fl_10_22 dX10_fund_14 h_x.1 rfl ?_
  refine or_aload_n E rfl dX10_fund_17 ?_
  refine ot_getC E fl_10_10 dX10_fund_18 h_x.1 rfl ?_
  refine or_cV1v (cH_remember  h_x.2.2.2.1 h_x.2.1 (by omega) hX.2.2.2.2.1.1 hX.2.2.2.2.1.2 hX.1.1.1 hX.1.1.2 hX.1.2.1.1 hX.1.2.1.2) E lk_10_97 dX10_fund_21 h_x.2.2.2.1.1 rfl rfl (by decide) (by decide) ⟨(Nat.le_of_ble_eq_true rfl), (Nat.le_of_ble_eq_true rfl)⟩ (Nat.le_of_ble_eq_true rfl) ?_
  obtain ⟨I1, hI1⟩ : ∃ y_ : ow_I, y_ = H_remember (x + 103) (x + 1) I := ⟨_, rfl⟩
  replace hk := lt_k (P := fun r : Int32 × ow_I => ox_e K S V z 0 (some (.int ((r).1))) ((r).2)) hI1 hk
  refine or_nmI hI1 ?_
  refine or_aload_n E rfl dX10_fund_24 ?_
  refine ot_getC E fl_10_10 dX10_fund_25 h_x.1 rfl ?_
  refine or_iload_n E rfl dX10_fund_28 ?_
  refine or_iload_n E rfl dX10_fund_29 ?_
  refine or_cV2v (cK_putCoins  h_x.2.1 (by subst hI1; exact (kV_rem hX))) E lk_10_181 dX10_fund_30 h_x.2.1.1 rfl rfl (by decide) (by decide) ⟨(Nat.le_of_ble_eq_true rfl), (Nat.le_of_ble_eq_true rfl)⟩ (Nat.le_of_ble_eq_true rfl) ?_
  obtain ⟨I2, hI2⟩ : ∃ y_ : ow_I, y_ = K_putCoins (x + 1) y c I1 := ⟨_, rfl⟩
  replace hk := lt_k (P := fun r : Int32 × ow_I => ox_e K S V z 0 (some (.int ((r).1))) ((r).2)) hI2 hk
  refine or_nmI hI2 ?_
  refine or_aload_n E rfl dX10_fund_33 ?_
  refine ot_getC E fl_10_10 dX10_fund_34 h_x.1 rfl ?_
  refine ot_getC E fl_10_185 dX10_fund_37 h_x.2.1.1 rfl ?_
  refine or_iload_n E rfl dX10_fund_40 ?_
  refine or_top (nI_tn (by subst hI2 hI1; exact hy.1)).symm ?_
  refine ot_aald (j := tn y) E dX10_fund_41 h_x.2.1.2.2.1 rfl rfl (by subst hI2 hI1; exact (lt06 hV hy)) (Nat.le_of_ble_eq_true rfl) ?_
  refine ot_getI E fl_10_189 dX10_fund_42 (h_x.2.1.2.2.2.2.2.1 (tn y) (by subst hI2 hI1; exact (lt06 hV hy))) rfl ?_
  try dsimp only at hk
  exact or_xr E F (fun X' E' F' => or_iret E' F' dX10_fund_45 (Nat.le_of_ble_eq_true rfl) (Nat.le_of_ble_eq_true rfl) (hk.1 rfl))
def A_setStep (x : Nat) (s : Int32) (I : ow_I) : Int32 × ow_I :=
  lt (H_remember (x + 103) (x + 1) I) (fun (I1 : ow_I) => lt (ow_u I1 (x + 1) 2 s) (fun (I2 : ow_I) => (I1 (x + 1) 2, I2)))
set_option maxRecDepth 100000 in
set_option maxHeartbeats 400000 in
theorem cA_setStep {Z : Nat → Nat} {S : Nat → Option ow_Sh} {I : ow_I} {V : Nat → Nat → Value} {z : Nat} {x : Nat} {s : Int32} (h_x : au_S S x) (hX : au_V x I) (h1 : nI 1 ≤ s) (h2 : s ≤ nI 50) : ow_Cx Z yX10_setStep cX10_setStep 3 (some .int) 4 0 0 [.ref x, .int s] (S, I, V, z) (ox_s S V z 0 (some (.int ((A_setStep x s I).1))) ((A_setStep x s I).2)) := by
  refine ow_Cx.off rfl (Nat.le_of_ble_eq_true rfl) (fun X K E G F hk => ?_)
  have E : ow_E X RX10 cX10_setStep 3 (ow_rm 4 0 0) := E
  refine or_lv [(0, .ref x), (1, .int s)] rfl ?_
  try dsimp only [A_setStep] at hk
  refine or_iload_n E rfl dX10_setStep_0 ?_
  refine or_iconst (v := nI 1) E rfl dX10_setStep_1 ?_
  refine or_bipush (v := nI 50) E rfl dX10_setStep_2 ?_
  refine or_fT3v (cA_requireRange (Z := Z)   h1 h2) E G F lk_10_82 dX10_setStep_4 (by decide) (by decide) ⟨(Nat.le_of_ble_eq_true rfl), (Nat.le_of_ble_eq_true rfl)⟩ (Nat.le_of_ble_eq_true rfl) (fun _ => ?_) (fun h => absurd h (Nat.lt_irrefl 0))
  refine or_aload_n E rfl dX10_setStep_7 ?_
  refine ot_getC E fl_10_22 dX10_setStep_8 h_x.1 rfl ?_
  refine or_aload_n E rfl dX10_setStep_11 ?_
  refine ot_getC E fl_10_10 dX10_setStep_12 h_x.1 rfl ?_
  refine or_cV1v (cH_remember  h_x.2.2.2.1 h_x.2.1 (by omega) hX.2.2.2.2.1.1 hX.2.2.2.2.1.2 hX.1.1.1 hX.1.1.2 hX.1.2.1.1 hX.1.2.1.2) E lk_10_97 dX10_setStep_15 h_x.2.2.2.1.1 rfl rfl (by decide) (by decide) ⟨(Nat.le_of_ble_eq_true rfl), (Nat.le_of_ble_eq_true rfl)⟩ (Nat.le_of_ble_eq_true rfl) ?_
  obtain ⟨I1, hI1⟩ : ∃ y_ : ow_I, y_ = H_remember (x + 103) (x + 1) I := ⟨_, rfl⟩
  replace hk := lt_k (P := fun r : Int32 × ow_I => ox_e K S V z 0 (some (.int ((r).1))) ((r).2)) hI1 hk
  refine or_nmI hI1 ?_
  refine or_aload_n E rfl dX10_setStep_18 ?_
  refine ot_getC E fl_10_10 dX10_setStep_19 h_x.1 rfl ?_
  refine ot_getI E fl_10_203 dX10_setStep_22 h_x.2.1.1 rfl ?_
  refine or_istore_n E dX10_setStep_25 (by decide) ?_
  refine or_aload_n E rfl dX10_setStep_26 ?_
  refine ot_getC E fl_10_10 dX10_setStep_27 h_x.1 rfl ?_
  refine or_iload_n E rfl dX10_setStep_30 ?_
  refine ot_putI E fl_10_203 fw_6_2 dX10_setStep_31 h_x.2.1.1 rfl ?_
  obtain ⟨I2, hI2⟩ : ∃ y_ : ow_I, y_ = ow_u I1 (x + 1) 2 s := ⟨_, rfl⟩
  replace hk := lt_k (P := fun r : Int32 × ow_I => ox_e K S V z 0 (some (.int ((r).1))) ((r).2)) hI2 hk
  refine or_nmI hI2 ?_
  refine or_iload_n E rfl dX10_setStep_34 ?_
  try dsimp only at hk
  exact or_xr E F (fun X' E' F' => or_iret E' F' dX10_setStep_35 (Nat.le_of_ble_eq_true rfl) (Nat.le_of_ble_eq_true rfl) (hk.1 rfl))
def A_setTaste (x : Nat) (y : Int32) (s : Int32) (f : Int32) (I : ow_I) : Int32 × ow_I :=
  lt (H_remember (x + 103) (x + 1) I) (fun (I1 : ow_I) => lt (ow_u I1 ((x + 1) + 5 + (tn y)) 1 s) (fun (I2 : ow_I) => lt (ow_u I2 ((x + 1) + 5 + (tn y)) 2 f) (fun (I3 : ow_I) => (I1 ((x + 1) + 5 + (tn y)) 1, I3))))
set_option maxRecDepth 100000 in
set_option maxHeartbeats 400000 in
theorem cA_setTaste {Z : Nat → Nat} {S : Nat → Option ow_Sh} {I : ow_I} {V : Nat → Nat → Value} {z : Nat} {x : Nat} {y : Int32} {s : Int32} {f : Int32} (h_x : au_S S x) (hX : au_V x I) (hy : 0 ≤ y ∧ tn y < tn (I (x + 1) 8)) (h1 : nI 0 ≤ s) (h2 : s ≤ nI 4) (h3 : nI 1 ≤ f) (h4 : f ≤ nI 999) : ow_Cx Z yX10_setTaste cX10_setTaste 6 (some .int) 4 0 0 [.ref x, .int y, .int s, .int f] (S, I, V, z) (ox_s S V z 0 (some (.int ((A_setTaste x y s f I).1))) ((A_setTaste x y s f I).2)) := by
  refine ow_Cx.off rfl (Nat.le_of_ble_eq_true rfl) (fun X K E G F hk => ?_)
  have E : ow_E X RX10 cX10_setTaste 6 (ow_rm 4 0 0) := E
  refine or_lv [(0, .ref x), (1, .int y), (2, .int s), (3, .int f)] rfl ?_
  have hV := hX.1
  try dsimp only [A_setTaste] at hk
  refine or_aload_n E rfl dX10_setTaste_0 ?_
  refine or_iload_n E rfl dX10_setTaste_1 ?_
  refine or_fV1v (cA_requireBuyer (Z := Z)  h_x hy) E G F lk_10_127 dX10_setTaste_2 h_x.1 rfl rfl (by decide) (by decide) ⟨(Nat.le_of_ble_eq_true rfl), (Nat.le_of_ble_eq_true rfl)⟩ (Nat.le_of_ble_eq_true rfl) (fun _ => ?_) (fun h => absurd h (Nat.lt_irrefl 0))
  refine or_iload_n E rfl dX10_setTaste_5 ?_
  refine or_iconst (v := nI 0) E rfl dX10_setTaste_6 ?_
  refine or_iconst (v := nI 4) E rfl dX10_setTaste_7 ?_
  refine or_fT3v (cA_requireRange (Z := Z)   h1 h2) E G F lk_10_82 dX10_setTaste_8 (by decide) (by decide) ⟨(Nat.le_of_ble_eq_true rfl), (Nat.le_of_ble_eq_true rfl)⟩ (Nat.le_of_ble_eq_true rfl) (fun _ => ?_) (fun h => absurd h (Nat.lt_irrefl 0))
  refine or_iload_n E rfl dX10_setTaste_11 ?_
  refine or_iconst (v := nI 1) E rfl dX10_setTaste_12 ?_
  refine or_sipush (v := nI 999) E rfl dX10_setTaste_13 ?_
  refine or_fT3v (cA_requireRange (Z := Z)   h3 h4) E G F lk_10_82 dX10_setTaste_16 (by decide) (by decide) ⟨(Nat.le_of_ble_eq_true rfl), (Nat.le_of_ble_eq_true rfl)⟩ (Nat.le_of_ble_eq_true rfl) (fun _ => ?_) (fun h => absurd h (Nat.lt_irrefl 0))
  refine or_aload_n E rfl dX10_setTaste_19 ?_
  refine ot_getC E fl_10_22 dX10_setTaste_20 h_x.1 rfl ?_
  refine or_aload_n E rfl dX10_setTaste_23 ?_
  refine ot_getC E fl_10_10 dX10_setTaste_24 h_x.1 rfl ?_
  refine or_cV1v (cH_remember  h_x.2.2.2.1 h_x.2.1 (by omega) hX.2.2.2.2.1.1 hX.2.2.2.2.1.2 hX.1.1.1 hX.1.1.2 hX.1.2.1.1 hX.1.2.1.2) E lk_10_97 dX10_setTaste_27 h_x.2.2.2.1.1 rfl rfl (by decide) (by decide) ⟨(Nat.le_of_ble_eq_true rfl), (Nat.le_of_ble_eq_true rfl)⟩ (Nat.le_of_ble_eq_true rfl) ?_
  obtain ⟨I1, hI1⟩ : ∃ y_ : ow_I, y_ = H_remember (x + 103) (x + 1) I := ⟨_, rfl⟩
  replace hk := lt_k (P := fun r : Int32 × ow_I => ox_e K S V z 0 (some (.int ((r).1))) ((r).2)) hI1 hk
  refine or_nmI hI1 ?_
  refine or_aload_n E rfl dX10_setTaste_30 ?_
  refine ot_getC E fl_10_10 dX10_setTaste_31 h_x.1 rfl ?_
  refine ot_getC E fl_10_185 dX10_setTaste_34 h_x.2.1.1 rfl ?_
  refine or_iload_n E rfl dX10_setTaste_37 ?_
  refine or_top (nI_tn (by subst hI1; exact hy.1)).symm ?_
  refine ot_aald (j := tn y) E dX10_setTaste_38 h_x.2.1.2.2.1 rfl rfl (by subst hI1; exact (lt06 hV hy)) (Nat.le_of_ble_eq_true rfl) ?_
  refine or_astore E dX10_setTaste_39 (by decide) ?_
  refine or_aload E rfl dX10_setTaste_41 ?_
  refine ot_getI E fl_10_206 dX10_setTaste_43 (h_x.2.1.2.2.2.2.2.1 (tn y) (by subst hI1; exact (lt06 hV hy))) rfl ?_
  refine or_istore E dX10_setTaste_46 (by decide) ?_
  refine or_aload E rfl dX10_setTaste_48 ?_
  refine or_iload_n E rfl dX10_setTaste_50 ?_
  refine ot_putI E fl_10_206 fw_2_1 dX10_setTaste_51 (h_x.2.1.2.2.2.2.2.1 (tn y) (by subst hI1; exact (lt06 hV hy))) rfl ?_
  obtain ⟨I2, hI2⟩ : ∃ y_ : ow_I, y_ = ow_u I1 ((x + 1) + 5 + (tn y)) 1 s := ⟨_, rfl⟩
  replace hk := lt_k (P := fun r : Int32 × ow_I => ox_e K S V z 0 (some (.int ((r).1))) ((r).2)) hI2 hk
  refine or_nmI hI2 ?_
  refine or_aload E rfl dX10_setTaste_54 ?_
  refine or_iload_n E rfl dX10_setTaste_56 ?_
  refine ot_putI E fl_10_209 fw_2_2 dX10_setTaste_57 (h_x.2.1.2.2.2.2.2.1 (tn y) (by subst hI1; exact (lt06 hV hy))) rfl ?_
  obtain ⟨I3, hI3⟩ : ∃ y_ : ow_I, y_ = ow_u I2 ((x + 1) + 5 + (tn y)) 2 f := ⟨_, rfl⟩
  replace hk := lt_k (P := fun r : Int32 × ow_I => ox_e K S V z 0 (some (.int ((r).1))) ((r).2)) hI3 hk
  refine or_nmI hI3 ?_
  refine or_iload E rfl dX10_setTaste_60 ?_
  try dsimp only at hk
  exact or_xr E F (fun X' E' F' => or_iret E' F' dX10_setTaste_62 (Nat.le_of_ble_eq_true rfl) (Nat.le_of_ble_eq_true rfl) (hk.1 rfl))
