theorem fl_10_22 : ow_fl RX10 22 10 2 := ⟨_, rfl, by decide, ow_T_in 555 (by decide +kernel) (by decide +kernel), ow_ok10⟩
theorem fl_10_41 : ow_fl RX10 41 10 6 := ⟨_, rfl, by decide, ow_T_in 559 (by decide +kernel) (by decide +kernel), ow_ok10⟩
theorem fl_10_52 : ow_fl RX10 52 7 0 := ⟨_, rfl, by decide, ow_T_in 319 (by decide +kernel) (by decide +kernel), ow_ok7⟩
theorem fl_10_68 : ow_fl RX10 68 5 1 := ⟨_, rfl, by decide, ow_T_in 263 (by decide +kernel) (by decide +kernel), ow_ok5⟩
theorem lk_10_78 : ow_lv RX10 78 yX5_addFour cX5_addFour 3 none 1 := ⟨ow_T_in 1083 (by decide +kernel) (by decide +kernel), ow_T_in 1084 (by decide +kernel) (by decide +kernel), ow_T_in 1085 (by decide +kernel) (by decide +kernel), ow_T_in 8 (by decide +kernel) (by decide +kernel), ow_T_in 1086 (by decide +kernel) (by decide +kernel), ⟨by decide +kernel, by decide +kernel, by decide +kernel⟩⟩
theorem lk_10_82 : ow_lt RX10 82 yX10_requireRange cX10_requireRange 3 none 3 := ⟨ow_T_in 1095 (by decide +kernel) (by decide +kernel), ow_T_in 1096 (by decide +kernel) (by decide +kernel), ow_T_in 1 (by decide +kernel) (by decide +kernel), ow_T_in 1097 (by decide +kernel) (by decide +kernel), ⟨by decide +kernel, by decide +kernel, by decide +kernel⟩⟩
theorem lk_10_97 : ow_lv RX10 97 yX4_remember cX4_remember 2 none 1 := ⟨ow_T_in 1109 (by decide +kernel) (by decide +kernel), ow_T_in 1110 (by decide +kernel) (by decide +kernel), ow_T_in 1111 (by decide +kernel) (by decide +kernel), ow_T_in 6 (by decide +kernel) (by decide +kernel), ow_T_in 1112 (by decide +kernel) (by decide +kernel), ⟨by decide +kernel, by decide +kernel, by decide +kernel⟩⟩
theorem lk_10_130 : ow_lv RX10 130 yX6_refusal cX6_refusal 2 (some .int) 1 := ⟨ow_T_in 1277 (by decide +kernel) (by decide +kernel), ow_T_in 668 (by decide +kernel) (by decide +kernel), ow_T_in 669 (by decide +kernel) (by decide +kernel), ow_T_in 2 (by decide +kernel) (by decide +kernel), ow_T_in 670 (by decide +kernel) (by decide +kernel), ⟨by decide +kernel, by decide +kernel, by decide +kernel⟩⟩
theorem lk_10_134 : ow_lt RX10 134 yX10_requireState cX10_requireState 1 none 1 := ⟨ow_T_in 1278 (by decide +kernel) (by decide +kernel), ow_T_in 1279 (by decide +kernel) (by decide +kernel), ow_T_in 1 (by decide +kernel) (by decide +kernel), ow_T_in 1280 (by decide +kernel) (by decide +kernel), ⟨by decide +kernel, by decide +kernel, by decide +kernel⟩⟩
theorem lk_10_138 : ow_lv RX10 138 yX6_takeNod cX6_takeNod 2 none 1 := ⟨ow_T_in 1282 (by decide +kernel) (by decide +kernel), ow_T_in 1178 (by decide +kernel) (by decide +kernel), ow_T_in 1179 (by decide +kernel) (by decide +kernel), ow_T_in 2 (by decide +kernel) (by decide +kernel), ow_T_in 1180 (by decide +kernel) (by decide +kernel), ⟨by decide +kernel, by decide +kernel, by decide +kernel⟩⟩
theorem lk_10_144 : ow_lv RX10 144 yX6_letPass cX6_letPass 4 (some .int) 1 := ⟨ow_T_in 1290 (by decide +kernel) (by decide +kernel), ow_T_in 1182 (by decide +kernel) (by decide +kernel), ow_T_in 1183 (by decide +kernel) (by decide +kernel), ow_T_in 2 (by decide +kernel) (by decide +kernel), ow_T_in 1184 (by decide +kernel) (by decide +kernel), ⟨by decide +kernel, by decide +kernel, by decide +kernel⟩⟩
theorem lk_10_147 : ow_lv RX10 147 yX6_hasRoom cX6_hasRoom 1 (some .boolean) 0 := ⟨ow_T_in 1298 (by decide +kernel) (by decide +kernel), ow_T_in 527 (by decide +kernel) (by decide +kernel), ow_T_in 528 (by decide +kernel) (by decide +kernel), ow_T_in 2 (by decide +kernel) (by decide +kernel), ow_T_in 529 (by decide +kernel) (by decide +kernel), ⟨by decide +kernel, by decide +kernel, by decide +kernel⟩⟩
theorem lk_10_151 : ow_lt RX10 151 yJ7_fill_53178 cJ7_fill_53178 4 none 2 := ⟨ow_T_in 1299 (by decide +kernel) (by decide +kernel), ow_T_in 1300 (by decide +kernel) (by decide +kernel), ow_T_in 28 (by decide +kernel) (by decide +kernel), ow_T_in 1301 (by decide +kernel) (by decide +kernel), ⟨by decide +kernel, by decide +kernel, by decide +kernel⟩⟩
theorem lk_10_157 : ow_lv RX10 157 yX6_takeBarrel cX6_takeBarrel 6 (some .int) 4 := ⟨ow_T_in 1302 (by decide +kernel) (by decide +kernel), ow_T_in 523 (by decide +kernel) (by decide +kernel), ow_T_in 524 (by decide +kernel) (by decide +kernel), ow_T_in 2 (by decide +kernel) (by decide +kernel), ow_T_in 525 (by decide +kernel) (by decide +kernel), ⟨by decide +kernel, by decide +kernel, by decide +kernel⟩⟩
theorem lk_10_164 : ow_lv RX10 164 yX6_canCut cX6_canCut 3 (some .boolean) 2 := ⟨ow_T_in 1316 (by decide +kernel) (by decide +kernel), ow_T_in 1223 (by decide +kernel) (by decide +kernel), ow_T_in 1224 (by decide +kernel) (by decide +kernel), ow_T_in 2 (by decide +kernel) (by decide +kernel), ow_T_in 1225 (by decide +kernel) (by decide +kernel), ⟨by decide +kernel, by decide +kernel, by decide +kernel⟩⟩
theorem lk_10_168 : ow_lv RX10 168 yX6_cut cX6_cut 7 (some .int) 2 := ⟨ow_T_in 1317 (by decide +kernel) (by decide +kernel), ow_T_in 1219 (by decide +kernel) (by decide +kernel), ow_T_in 1220 (by decide +kernel) (by decide +kernel), ow_T_in 2 (by decide +kernel) (by decide +kernel), ow_T_in 1221 (by decide +kernel) (by decide +kernel), ⟨by decide +kernel, by decide +kernel, by decide +kernel⟩⟩
theorem lk_10_172 : ow_lv RX10 172 yX6_isWaiting cX6_isWaiting 2 (some .boolean) 1 := ⟨ow_T_in 1325 (by decide +kernel) (by decide +kernel), ow_T_in 1227 (by decide +kernel) (by decide +kernel), ow_T_in 1228 (by decide +kernel) (by decide +kernel), ow_T_in 2 (by decide +kernel) (by decide +kernel), ow_T_in 1229 (by decide +kernel) (by decide +kernel), ⟨by decide +kernel, by decide +kernel, by decide +kernel⟩⟩
theorem lk_10_175 : ow_lv RX10 175 yX6_takeAway cX6_takeAway 2 none 1 := ⟨ow_T_in 1326 (by decide +kernel) (by decide +kernel), ow_T_in 1248 (by decide +kernel) (by decide +kernel), ow_T_in 1249 (by decide +kernel) (by decide +kernel), ow_T_in 2 (by decide +kernel) (by decide +kernel), ow_T_in 1250 (by decide +kernel) (by decide +kernel), ⟨by decide +kernel, by decide +kernel, by decide +kernel⟩⟩
theorem lk_10_181 : ow_lv RX10 181 yX6_putCoins cX6_putCoins 4 none 2 := ⟨ow_T_in 1334 (by decide +kernel) (by decide +kernel), ow_T_in 1242 (by decide +kernel) (by decide +kernel), ow_T_in 1243 (by decide +kernel) (by decide +kernel), ow_T_in 2 (by decide +kernel) (by decide +kernel), ow_T_in 1244 (by decide +kernel) (by decide +kernel), ⟨by decide +kernel, by decide +kernel, by decide +kernel⟩⟩
def A_truncate (x : Nat) (n : Int32) (I : ow_I) : Nat × Int32 × ow_I :=
  if A_requireRange n (nI 0) (I ((x + 515) + 1) 1) I = 0 then lt (ow_u I ((x + 515) + 1) 1 n) (fun (I1 : ow_I) => (0, n, I1)) else (A_requireRange n (nI 0) (I ((x + 515) + 1) 1) I, 0, I)
set_option maxRecDepth 100000 in
set_option maxHeartbeats 400000 in
theorem cA_truncate {Z : Nat → Nat} {S : Nat → Option ow_Sh} {I : ow_I} {V : Nat → Nat → Value} {z : Nat} {x : Nat} {n : Int32} (h_x : au_S S x)  : ow_Cx Z yX10_truncate cX10_truncate 2 (some .int) 10 1 6 [.ref x, .int n] (S, I, V, z) (ox_s S V z ((A_truncate x n I).1) (some (.int ((A_truncate x n I).2.1))) ((A_truncate x n I).2.2)) := by
  refine ow_Cx.off rfl (Nat.le_of_ble_eq_true rfl) (fun X K E G F hk => ?_)
  have E : ow_E X RX10 cX10_truncate 2 (ow_rm 10 1 6) := E
  refine or_lv [(0, .ref x), (1, .int n)] rfl ?_
  try dsimp only [A_truncate] at hk
  refine or_iload_n E rfl dX10_truncate_0 ?_
  refine or_iconst (v := nI 0) E rfl dX10_truncate_1 ?_
  refine or_aload_n E rfl dX10_truncate_2 ?_
  refine ot_getC E fl_10_37 dX10_truncate_3 h_x.1 rfl ?_
  refine ot_getC E fl_10_52 dX10_truncate_6 h_x.2.2.2.2.2.2.1.1 rfl ?_
  refine ot_getI E fl_10_68 dX10_truncate_9 h_x.2.2.2.2.2.2.1.2.1.1 rfl ?_
  refine or_fT3v (cA_requireRange (Z := Z)   ) E G F lk_10_82 dX10_truncate_12 (by decide) (by decide) ⟨(Nat.le_of_ble_eq_true rfl), (Nat.le_of_ble_eq_true rfl)⟩ (Nat.le_of_ble_eq_true rfl) (fun q12 => ?_) (fun q12 => (ite_n (P := fun r : Nat × Int32 × ow_I => ox_e K S V z ((r).1) (some (.int ((r).2.1))) ((r).2.2)) (Nat.pos_iff_ne_zero.mp q12) hk).2 q12)
  replace hk := ite_p (P := fun r : Nat × Int32 × ow_I => ox_e K S V z ((r).1) (some (.int ((r).2.1))) ((r).2.2)) q12 hk
  refine or_aload_n E rfl dX10_truncate_15 ?_
  refine ot_getC E fl_10_37 dX10_truncate_16 h_x.1 rfl ?_
  refine ot_getC E fl_10_52 dX10_truncate_19 h_x.2.2.2.2.2.2.1.1 rfl ?_
  refine or_iload_n E rfl dX10_truncate_22 ?_
  refine ot_putI E fl_10_68 fw_5_1 dX10_truncate_23 h_x.2.2.2.2.2.2.1.2.1.1 rfl ?_
  obtain ⟨I1, hI1⟩ : ∃ y_ : ow_I, y_ = ow_u I ((x + 515) + 1) 1 n := ⟨_, rfl⟩
  replace hk := lt_k (P := fun r : Nat × Int32 × ow_I => ox_e K S V z ((r).1) (some (.int ((r).2.1))) ((r).2.2)) hI1 hk
  refine or_nmI hI1 ?_
  refine or_iload_n E rfl dX10_truncate_26 ?_
  try dsimp only at hk
  exact or_xr E F (fun X' E' F' => or_iret E' F' dX10_truncate_27 (Nat.le_of_ble_eq_true rfl) (Nat.le_of_ble_eq_true rfl) (hk.1 rfl))
def A_append (x : Nat) (a : Int32) (b : Int32) (c : Int32) (d : Int32) (e : Int32) (I : ow_I) : Nat × Int32 × ow_I :=
  if I ((x + 515) + 1) 1 + (nI 20) ≤ nI 500 then lt (U_addFour ((x + 515) + 1) a I) (fun (I1 : ow_I) => lt (U_addFour ((x + 515) + 1) b I1) (fun (I2 : ow_I) => lt (U_addFour ((x + 515) + 1) c I2) (fun (I3 : ow_I) => lt (U_addFour ((x + 515) + 1) d I3) (fun (I4 : ow_I) => lt (U_addFour ((x + 515) + 1) e I4) (fun (I5 : ow_I) => (0, I5 ((x + 515) + 1) 1, I5)))))) else (2, 0, I)
set_option maxRecDepth 100000 in
set_option maxHeartbeats 400000 in
theorem cA_append {Z : Nat → Nat} {S : Nat → Option ow_Sh} {I : ow_I} {V : Nat → Nat → Value} {z : Nat} {x : Nat} {a : Int32} {b : Int32} {c : Int32} {d : Int32} {e : Int32} (h_x : au_S S x) (hX : au_V x I) : ow_Cx Z yX10_append cX10_append 7 (some .int) 9 1 6 [.ref x, .int a, .int b, .int c, .int d, .int e] (S, I, V, z) (ox_s S V z ((A_append x a b c d e I).1) (some (.int ((A_append x a b c d e I).2.1))) ((A_append x a b c d e I).2.2)) := by
  refine ow_Cx.off rfl (Nat.le_of_ble_eq_true rfl) (fun X K E G F hk => ?_)
  have E : ow_E X RX10 cX10_append 7 (ow_rm 9 1 6) := E
  refine or_lv [(0, .ref x), (1, .int a), (2, .int b), (3, .int c), (4, .int d), (5, .int e)] rfl ?_
  have u0 : 0 ≤ I (x + 515 + 1) 1 ∧ tn (I (x + 515 + 1) 1) ≤ 500 := hX.2.2.2.2.2.1
  try dsimp only [A_append] at hk
  refine or_aload_n E rfl dX10_append_0 ?_
  refine ot_getC E fl_10_37 dX10_append_1 h_x.1 rfl ?_
  refine ot_getC E fl_10_52 dX10_append_4 h_x.2.2.2.2.2.2.1.1 rfl ?_
  refine or_astore E dX10_append_7 (by decide) ?_
  refine or_aload E rfl dX10_append_9 ?_
  refine ot_getI E fl_10_68 dX10_append_11 h_x.2.2.2.2.2.2.1.2.1.1 rfl ?_
  refine or_bipush (v := nI 20) E rfl dX10_append_14 ?_
  refine or_iadd E dX10_append_16 ?_
  refine or_sipush (v := nI 500) E rfl dX10_append_17 ?_
  refine or_icmp_le 33 E dX10_append_20 rfl (fun q20 => ?_) (fun q20 => ?_)
  · replace hk := ite_p (P := fun r : Nat × Int32 × ow_I => ox_e K S V z ((r).1) (some (.int ((r).2.1))) ((r).2.2)) q20 hk
    refine or_aload E rfl dX10_append_33 ?_
    refine or_iload_n E rfl dX10_append_35 ?_
    refine or_cV1v (cU_addFour  h_x.2.2.2.2.2.2.1.2.1 u0.1 u0.2) E lk_10_78 dX10_append_36 h_x.2.2.2.2.2.2.1.2.1.1 rfl rfl (by decide) (by decide) ⟨(Nat.le_of_ble_eq_true rfl), (Nat.le_of_ble_eq_true rfl)⟩ (Nat.le_of_ble_eq_true rfl) ?_
    obtain ⟨I1, hI1⟩ : ∃ y_ : ow_I, y_ = U_addFour ((x + 515) + 1) a I := ⟨_, rfl⟩
    replace hk := lt_k (P := fun r : Nat × Int32 × ow_I => ox_e K S V z ((r).1) (some (.int ((r).2.1))) ((r).2.2)) hI1 hk
    refine or_nmI hI1 ?_
    have u1 : 0 ≤ I1 (x + 515 + 1) 1 ∧ tn (I1 (x + 515 + 1) 1) ≤ 500 := by rw [hI1]; exact af_1 u0
    refine or_aload E rfl dX10_append_39 ?_
    refine or_iload_n E rfl dX10_append_41 ?_
    refine or_cV1v (cU_addFour  h_x.2.2.2.2.2.2.1.2.1 u1.1 u1.2) E lk_10_78 dX10_append_42 h_x.2.2.2.2.2.2.1.2.1.1 rfl rfl (by decide) (by decide) ⟨(Nat.le_of_ble_eq_true rfl), (Nat.le_of_ble_eq_true rfl)⟩ (Nat.le_of_ble_eq_true rfl) ?_
    obtain ⟨I2, hI2⟩ : ∃ y_ : ow_I, y_ = U_addFour ((x + 515) + 1) b I1 := ⟨_, rfl⟩
    replace hk := lt_k (P := fun r : Nat × Int32 × ow_I => ox_e K S V z ((r).1) (some (.int ((r).2.1))) ((r).2.2)) hI2 hk
    refine or_nmI hI2 ?_
    have u2 : 0 ≤ I2 (x + 515 + 1) 1 ∧ tn (I2 (x + 515 + 1) 1) ≤ 500 := by rw [hI2]; exact af_1 u1
    refine or_aload E rfl dX10_append_45 ?_
    refine or_iload_n E rfl dX10_append_47 ?_
    refine or_cV1v (cU_addFour  h_x.2.2.2.2.2.2.1.2.1 u2.1 u2.2) E lk_10_78 dX10_append_48 h_x.2.2.2.2.2.2.1.2.1.1 rfl rfl (by decide) (by decide) ⟨(Nat.le_of_ble_eq_true rfl), (Nat.le_of_ble_eq_true rfl)⟩ (Nat.le_of_ble_eq_true rfl) ?_
    obtain ⟨I3, hI3⟩ : ∃ y_ : ow_I, y_ = U_addFour ((x + 515) + 1) c I2 := ⟨_, rfl⟩
    replace hk := lt_k (P := fun r : Nat × Int32 × ow_I => ox_e K S V z ((r).1) (some (.int ((r).2.1))) ((r).2.2)) hI3 hk
    refine or_nmI hI3 ?_
    have u3 : 0 ≤ I3 (x + 515 + 1) 1 ∧ tn (I3 (x + 515 + 1) 1) ≤ 500 := by rw [hI3]; exact af_1 u2
    refine or_aload E rfl dX10_append_51 ?_
    refine or_iload E rfl dX10_append_53 ?_
    refine or_cV1v (cU_addFour  h_x.2.2.2.2.2.2.1.2.1 u3.1 u3.2) E lk_10_78 dX10_append_55 h_x.2.2.2.2.2.2.1.2.1.1 rfl rfl (by decide) (by decide) ⟨(Nat.le_of_ble_eq_true rfl), (Nat.le_of_ble_eq_true rfl)⟩ (Nat.le_of_ble_eq_true rfl) ?_
    obtain ⟨I4, hI4⟩ : ∃ y_ : ow_I, y_ = U_addFour ((x + 515) + 1) d I3 := ⟨_, rfl⟩
    replace hk := lt_k (P := fun r : Nat × Int32 × ow_I => ox_e K S V z ((r).1) (some (.int ((r).2.1))) ((r).2.2)) hI4 hk
    refine or_nmI hI4 ?_
    have u4 : 0 ≤ I4 (x + 515 + 1) 1 ∧ tn (I4 (x + 515 + 1) 1) ≤ 500 := by rw [hI4]; exact af_1 u3
    refine or_aload E rfl dX10_append_58 ?_
    refine or_iload E rfl dX10_append_60 ?_
    refine or_cV1v (cU_addFour  h_x.2.2.2.2.2.2.1.2.1 u4.1 u4.2) E lk_10_78 dX10_append_62 h_x.2.2.2.2.2.2.1.2.1.1 rfl rfl (by decide) (by decide) ⟨(Nat.le_of_ble_eq_true rfl), (Nat.le_of_ble_eq_true rfl)⟩ (Nat.le_of_ble_eq_true rfl) ?_
    obtain ⟨I5, hI5⟩ : ∃ y_ : ow_I, y_ = U_addFour ((x + 515) + 1) e I4 := ⟨_, rfl⟩
    replace hk := lt_k (P := fun r : Nat × Int32 × ow_I => ox_e K S V z ((r).1) (some (.int ((r).2.1))) ((r).2.2)) hI5 hk
    refine or_nmI hI5 ?_
    have u5 : 0 ≤ I5 (x + 515 + 1) 1 ∧ tn (I5 (x + 515 + 1) 1) ≤ 500 := by rw [hI5]; exact af_1 u4
    refine or_aload E rfl dX10_append_65 ?_
    refine ot_getI E fl_10_68 dX10_append_67 h_x.2.2.2.2.2.2.1.2.1.1 rfl ?_
    try dsimp only at hk
    exact or_xr E F (fun X' E' F' => or_iret E' F' dX10_append_70 (Nat.le_of_ble_eq_true rfl) (Nat.le_of_ble_eq_true rfl) (hk.1 rfl))
  · replace hk := ite_n (P := fun r : Nat × Int32 × ow_I => ox_e K S V z ((r).1) (some (.int ((r).2.1))) ((r).2.2)) q20 hk
    try dsimp only at hk
    exact or_throwS E G F tw_10_72_76 (by decide) (og_12 G 4 rfl) dX10_append_23 dX10_append_26 dX10_append_27 dX10_append_29 dX10_append_32 (by decide) (Nat.le_of_ble_eq_true rfl) (Nat.le_of_ble_eq_true rfl) (Nat.le_of_ble_eq_true rfl) (hk.2 (by decide))
def A_nod (x : Nat) (b : Int32) (I : ow_I) : Nat × Int32 × ow_I :=
  if A_requireBuyer x b I = 0 then if K_refusal (x + 1) b I = 0 then if A_requireState true I = 0 then lt (H_remember (x + 103) (x + 1) I) (fun (I3 : ow_I) => lt (K_takeNod (x + 1) b I3) (fun (I4 : ow_I) => (0, I4 (x + 1) 14, I4))) else (A_requireState true I, 0, I) else if A_requireState false I = 0 then lt (H_remember (x + 103) (x + 1) I) (fun (I1 : ow_I) => lt (K_takeNod (x + 1) b I1) (fun (I2 : ow_I) => (0, I2 (x + 1) 14, I2))) else (A_requireState false I, 0, I) else (A_requireBuyer x b I, 0, I)
set_option maxRecDepth 100000 in
set_option maxHeartbeats 400000 in
theorem cA_nod {Z : Nat → Nat} {S : Nat → Option ow_Sh} {I : ow_I} {V : Nat → Nat → Value} {z : Nat} {x : Nat} {b : Int32} (h_x : au_S S x) (hX : au_V x I) : ow_Cx Z yX10_nod cX10_nod 2 (some .int) 10 2 12 [.ref x, .int b] (S, I, V, z) (ox_s S V z ((A_nod x b I).1) (some (.int ((A_nod x b I).2.1))) ((A_nod x b I).2.2)) := by
  refine ow_Cx.off rfl (Nat.le_of_ble_eq_true rfl) (fun X K E G F hk => ?_)
  have E : ow_E X RX10 cX10_nod 2 (ow_rm 10 2 12) := E
  refine or_lv [(0, .ref x), (1, .int b)] rfl ?_
  try dsimp only [A_nod] at hk
  refine or_aload_n E rfl dX10_nod_0 ?_
  refine or_iload_n E rfl dX10_nod_1 ?_
  refine or_fV1v (cA_requireBuyer (Z := Z)  h_x ) E G F lk_10_127 dX10_nod_2 h_x.1 rfl rfl (by decide) (by decide) ⟨(Nat.le_of_ble_eq_true rfl), (Nat.le_of_ble_eq_true rfl)⟩ (Nat.le_of_ble_eq_true rfl) (fun q2 => ?_) (fun q2 => (ite_n (P := fun r : Nat × Int32 × ow_I => ox_e K S V z ((r).1) (some (.int ((r).2.1))) ((r).2.2)) (Nat.pos_iff_ne_zero.mp q2) hk).2 q2)
  replace hk := ite_p (P := fun r : Nat × Int32 × ow_I => ox_e K S V z ((r).1) (some (.int ((r).2.1))) ((r).2.2)) q2 hk
  refine or_aload_n E rfl dX10_nod_5 ?_
  refine ot_getC E fl_10_10 dX10_nod_6 h_x.1 rfl ?_
  refine or_iload_n E rfl dX10_nod_9 ?_
  refine or_cV1r (cK_refusal  h_x.2.1 hX.1) E lk_10_130 dX10_nod_10 h_x.2.1.1 rfl rfl (by decide) (by decide) ⟨(Nat.le_of_ble_eq_true rfl), (Nat.le_of_ble_eq_true rfl)⟩ (Nat.le_of_ble_eq_true rfl) ?_
  refine or_if_ne 20 E dX10_nod_13 rfl (fun q13 => ?_) (fun q13 => ?_)
  · replace hk := ite_n (P := fun r : Nat × Int32 × ow_I => ox_e K S V z ((r).1) (some (.int ((r).2.1))) ((r).2.2)) q13 hk
    refine or_iconst (v := nI 0) E rfl dX10_nod_20 ?_
    refine or_fT1v (cA_requireState (Z := Z) (b := false)  ) E G F lk_10_134 dX10_nod_21 (by decide) (by decide) ⟨(Nat.le_of_ble_eq_true rfl), (Nat.le_of_ble_eq_true rfl)⟩ (Nat.le_of_ble_eq_true rfl) (fun q21 => ?_) (fun q21 => (ite_n (P := fun r : Nat × Int32 × ow_I => ox_e K S V z ((r).1) (some (.int ((r).2.1))) ((r).2.2)) (Nat.pos_iff_ne_zero.mp q21) hk).2 q21)
    replace hk := ite_p (P := fun r : Nat × Int32 × ow_I => ox_e K S V z ((r).1) (some (.int ((r).2.1))) ((r).2.2)) q21 hk
    refine or_aload_n E rfl dX10_nod_24 ?_
    refine ot_getC E fl_10_22 dX10_nod_25 h_x.1 rfl ?_
    refine or_aload_n E rfl dX10_nod_28 ?_
    refine ot_getC E fl_10_10 dX10_nod_29 h_x.1 rfl ?_
    refine or_cV1v (cH_remember  h_x.2.2.2.1 h_x.2.1 (by omega) hX.2.2.2.2.1.1 hX.2.2.2.2.1.2 hX.1.1.1 hX.1.1.2 hX.1.2.1.1 hX.1.2.1.2) E lk_10_97 dX10_nod_32 h_x.2.2.2.1.1 rfl rfl (by decide) (by decide) ⟨(Nat.le_of_ble_eq_true rfl), (Nat.le_of_ble_eq_true rfl)⟩ (Nat.le_of_ble_eq_true rfl) ?_
    obtain ⟨I1, hI1⟩ : ∃ y_ : ow_I, y_ = H_remember (x + 103) (x + 1) I := ⟨_, rfl⟩
    replace hk := lt_k (P := fun r : Nat × Int32 × ow_I => ox_e K S V z ((r).1) (some (.int ((r).2.1))) ((r).2.2)) hI1 hk
    refine or_nmI hI1 ?_
    refine or_aload_n E rfl dX10_nod_35 ?_
    refine ot_getC E fl_10_10 dX10_nod_36 h_x.1 rfl ?_
    refine or_iload_n E rfl dX10_nod_39 ?_
    refine or_cV1v (cK_takeNod  h_x.2.1 (by subst hI1; exact (kV_rem hX))) E lk_10_138 dX10_nod_40 h_x.2.1.1 rfl rfl (by decide) (by decide) ⟨(Nat.le_of_ble_eq_true rfl), (Nat.le_of_ble_eq_true rfl)⟩ (Nat.le_of_ble_eq_true rfl) ?_
    obtain ⟨I2, hI2⟩ : ∃ y_ : ow_I, y_ = K_takeNod (x + 1) b I1 := ⟨_, rfl⟩
    replace hk := lt_k (P := fun r : Nat × Int32 × ow_I => ox_e K S V z ((r).1) (some (.int ((r).2.1))) ((r).2.2)) hI2 hk
    refine or_nmI hI2 ?_
    refine or_aload_n E rfl dX10_nod_43 ?_
    refine ot_getC E fl_10_10 dX10_nod_44 h_x.1 rfl ?_
    refine ot_getI E fl_10_141 dX10_nod_47 h_x.2.1.1 rfl ?_
    try dsimp only at hk
    exact or_xr E F (fun X' E' F' => or_iret E' F' dX10_nod_50 (Nat.le_of_ble_eq_true rfl) (Nat.le_of_ble_eq_true rfl) (hk.1 rfl))
  · replace hk := ite_p (P := fun r : Nat × Int32 × ow_I => ox_e K S V z ((r).1) (some (.int ((r).2.1))) ((r).2.2)) q13 hk
    refine or_iconst (v := nI 1) E rfl dX10_nod_16 ?_
    refine or_goto 21 E dX10_nod_17 rfl ?_
    refine or_fT1v (cA_requireState (Z := Z) (b := true)  ) E G F lk_10_134 dX10_nod_21 (by decide) (by decide) ⟨(Nat.le_of_ble_eq_true rfl), (Nat.le_of_ble_eq_true rfl)⟩ (Nat.le_of_ble_eq_true rfl) (fun q21 => ?_) (fun q21 => (ite_n (P := fun r : Nat × Int32 × ow_I => ox_e K S V z ((r).1) (some (.int ((r).2.1))) ((r).2.2)) (Nat.pos_iff_ne_zero.mp q21) hk).2 q21)
    replace hk := ite_p (P := fun r : Nat × Int32 × ow_I => ox_e K S V z ((r).1) (some (.int ((r).2.1))) ((r).2.2)) q21 hk
    refine or_aload_n E rfl dX10_nod_24 ?_
    refine ot_getC E fl_10_22 dX10_nod_25 h_x.1 rfl ?_
    refine or_aload_n E rfl dX10_nod_28 ?_
    refine ot_getC E fl_10_10 dX10_nod_29 h_x.1 rfl ?_
    refine or_cV1v (cH_remember  h_x.2.2.2.1 h_x.2.1 (by omega) hX.2.2.2.2.1.1 hX.2.2.2.2.1.2 hX.1.1.1 hX.1.1.2 hX.1.2.1.1 hX.1.2.1.2) E lk_10_97 dX10_nod_32 h_x.2.2.2.1.1 rfl rfl (by decide) (by decide) ⟨(Nat.le_of_ble_eq_true rfl), (Nat.le_of_ble_eq_true rfl)⟩ (Nat.le_of_ble_eq_true rfl) ?_
    obtain ⟨I3, hI3⟩ : ∃ y_ : ow_I, y_ = H_remember (x + 103) (x + 1) I := ⟨_, rfl⟩
    replace hk := lt_k (P := fun r : Nat × Int32 × ow_I => ox_e K S V z ((r).1) (some (.int ((r).2.1))) ((r).2.2)) hI3 hk
    refine or_nmI hI3 ?_
    refine or_aload_n E rfl dX10_nod_35 ?_
    refine ot_getC E fl_10_10 dX10_nod_36 h_x.1 rfl ?_
    refine or_iload_n E rfl dX10_nod_39 ?_
    refine or_cV1v (cK_takeNod  h_x.2.1 (by subst hI3; exact (kV_rem hX))) E lk_10_138 dX10_nod_40 h_x.2.1.1 rfl rfl (by decide) (by decide) ⟨(Nat.le_of_ble_eq_true rfl), (Nat.le_of_ble_eq_true rfl)⟩ (Nat.le_of_ble_eq_true rfl) ?_
    obtain ⟨I4, hI4⟩ : ∃ y_ : ow_I, y_ = K_takeNod (x + 1) b I3 := ⟨_, rfl⟩
    replace hk := lt_k (P := fun r : Nat × Int32 × ow_I => ox_e K S V z ((r).1) (some (.int ((r).2.1))) ((r).2.2)) hI4 hk
    refine or_nmI hI4 ?_
    refine or_aload_n E rfl dX10_nod_43 ?_
    refine ot_getC E fl_10_10 dX10_nod_44 h_x.1 rfl ?_
    refine ot_getI E fl_10_141 dX10_nod_47 h_x.2.1.1 rfl ?_
    try dsimp only at hk
    exact or_xr E F (fun X' E' F' => or_iret E' F' dX10_nod_50 (Nat.le_of_ble_eq_true rfl) (Nat.le_of_ble_eq_true rfl) (hk.1 rfl))
def A_passMinutes (x : Nat) (m : Int32) (I : ow_I) : Nat × Int32 × ow_I :=
  if A_requireRange m (nI 1) (nI 200) I = 0 then lt (H_remember (x + 103) (x + 1) I) (fun (I1 : ow_I) => lt (K_letPass (x + 1) (tn m) I1) (fun (r2 : Int32 × ow_I) => (0, r2.1, r2.2))) else (A_requireRange m (nI 1) (nI 200) I, 0, I)
set_option maxRecDepth 100000 in
set_option maxHeartbeats 400000 in
theorem cA_passMinutes {Z : Nat → Nat} {S : Nat → Option ow_Sh} {I : ow_I} {V : Nat → Nat → Value} {z : Nat} {x : Nat} {m : Int32} (h_x : au_S S x) (hX : au_V x I) : ow_Cx Z yX10_passMinutes cX10_passMinutes 2 (some .int) 10 1 6 [.ref x, .int m] (S, I, V, z) (ox_s S V z ((A_passMinutes x m I).1) (some (.int ((A_passMinutes x m I).2.1))) ((A_passMinutes x m I).2.2)) := by
  refine ow_Cx.off rfl (Nat.le_of_ble_eq_true rfl) (fun X K E G F hk => ?_)
  have E : ow_E X RX10 cX10_passMinutes 2 (ow_rm 10 1 6) := E
  refine or_lv [(0, .ref x), (1, .int m)] rfl ?_
  try dsimp only [A_passMinutes] at hk
  refine or_iload_n E rfl dX10_passMinutes_0 ?_
  refine or_iconst (v := nI 1) E rfl dX10_passMinutes_1 ?_
  refine or_sipush (v := nI 200) E rfl dX10_passMinutes_2 ?_
  refine or_fT3v (cA_requireRange (Z := Z)   ) E G F lk_10_82 dX10_passMinutes_5 (by decide) (by decide) ⟨(Nat.le_of_ble_eq_true rfl), (Nat.le_of_ble_eq_true rfl)⟩ (Nat.le_of_ble_eq_true rfl) (fun q5 => ?_) (fun q5 => (ite_n (P := fun r : Nat × Int32 × ow_I => ox_e K S V z ((r).1) (some (.int ((r).2.1))) ((r).2.2)) (Nat.pos_iff_ne_zero.mp q5) hk).2 q5)
  replace hk := ite_p (P := fun r : Nat × Int32 × ow_I => ox_e K S V z ((r).1) (some (.int ((r).2.1))) ((r).2.2)) q5 hk
  refine or_aload_n E rfl dX10_passMinutes_8 ?_
  refine ot_getC E fl_10_22 dX10_passMinutes_9 h_x.1 rfl ?_
  refine or_aload_n E rfl dX10_passMinutes_12 ?_
  refine ot_getC E fl_10_10 dX10_passMinutes_13 h_x.1 rfl ?_
  refine or_cV1v (cH_remember  h_x.2.2.2.1 h_x.2.1 (by omega) hX.2.2.2.2.1.1 hX.2.2.2.2.1.2 hX.1.1.1 hX.1.1.2 hX.1.2.1.1 hX.1.2.1.2) E lk_10_97 dX10_passMinutes_16 h_x.2.2.2.1.1 rfl rfl (by decide) (by decide) ⟨(Nat.le_of_ble_eq_true rfl), (Nat.le_of_ble_eq_true rfl)⟩ (Nat.le_of_ble_eq_true rfl) ?_
  obtain ⟨I1, hI1⟩ : ∃ y_ : ow_I, y_ = H_remember (x + 103) (x + 1) I := ⟨_, rfl⟩
  replace hk := lt_k (P := fun r : Nat × Int32 × ow_I => ox_e K S V z ((r).1) (some (.int ((r).2.1))) ((r).2.2)) hI1 hk
  refine or_nmI hI1 ?_
  refine or_aload_n E rfl dX10_passMinutes_19 ?_
  refine ot_getC E fl_10_10 dX10_passMinutes_20 h_x.1 rfl ?_
  refine or_iload_n E rfl dX10_passMinutes_23 ?_
  refine or_top (nI_tn (by subst hI1; exact (rg_0 (by decide) q5))).symm ?_
  refine or_cV1r (cK_letPass  h_x.2.1 (by subst hI1; exact (tn_lt _)) (by subst hI1; exact (fun n => kV_it n _ (kV_rem hX)))) E lk_10_144 dX10_passMinutes_24 h_x.2.1.1 rfl rfl (by decide) (by decide) ⟨(Nat.le_of_ble_eq_true rfl), (Nat.le_of_ble_eq_true rfl)⟩ (Nat.le_of_ble_eq_true rfl) ?_
  obtain ⟨r2, hr2⟩ : ∃ y_ : Int32 × ow_I, y_ = K_letPass (x + 1) (tn m) I1 := ⟨_, rfl⟩
  replace hk := lt_k (P := fun r : Nat × Int32 × ow_I => ox_e K S V z ((r).1) (some (.int ((r).2.1))) ((r).2.2)) hr2 hk
  refine or_nmJ hr2 ?_
  try dsimp only at hk
  exact or_xr E F (fun X' E' F' => or_iret E' F' dX10_passMinutes_27 (Nat.le_of_ble_eq_true rfl) (Nat.le_of_ble_eq_true rfl) (hk.1 rfl))
def A_addBarrel (x : Nat) (r : Int32) (n : Int32) (l : Int32) (I : ow_I) : Nat × Int32 × ow_I :=
  if A_requireRange r (nI 1) (nI 999) I = 0 then if A_requireRange n (nI 1) (nI 9) I = 0 then if A_requireRange l (nI 10) (nI 150) I = 0 then if A_requireState (K_hasRoom (x + 1) I) I = 0 then lt (H_remember (x + 103) (x + 1) I) (fun (I1 : ow_I) => lt (j7_fill_53178 (x + 561) l I1) (fun (I2 : ow_I) => lt (K_takeBarrel (x + 1) r (x + 561) 0 (tn n) I2) (fun (r3 : Int32 × ow_I) => (0, r3.1, r3.2)))) else (A_requireState (K_hasRoom (x + 1) I) I, 0, I) else (A_requireRange l (nI 10) (nI 150) I, 0, I) else (A_requireRange n (nI 1) (nI 9) I, 0, I) else (A_requireRange r (nI 1) (nI 999) I, 0, I)
set_option maxRecDepth 100000 in
set_option maxHeartbeats 400000 in
theorem cA_addBarrel {Z : Nat → Nat} {S : Nat → Option ow_Sh} {I : ow_I} {V : Nat → Nat → Value} {z : Nat} {x : Nat} {r : Int32} {n : Int32} {l : Int32} (h_x : au_S S x) (hX : au_V x I) : ow_Cx Z yX10_addBarrel cX10_addBarrel 4 (some .int) 10 4 24 [.ref x, .int r, .int n, .int l] (S, I, V, z) (ox_s S V z ((A_addBarrel x r n l I).1) (some (.int ((A_addBarrel x r n l I).2.1))) ((A_addBarrel x r n l I).2.2)) := by
  refine ow_Cx.off rfl (Nat.le_of_ble_eq_true rfl) (fun X K E G F hk => ?_)
  have E : ow_E X RX10 cX10_addBarrel 4 (ow_rm 10 4 24) := E
  refine or_lv [(0, .ref x), (1, .int r), (2, .int n), (3, .int l)] rfl ?_
  try dsimp only [A_addBarrel] at hk
  refine or_iload_n E rfl dX10_addBarrel_0 ?_
  refine or_iconst (v := nI 1) E rfl dX10_addBarrel_1 ?_
  refine or_sipush (v := nI 999) E rfl dX10_addBarrel_2 ?_
  refine or_fT3v (cA_requireRange (Z := Z)   ) E G F lk_10_82 dX10_addBarrel_5 (by decide) (by decide) ⟨(Nat.le_of_ble_eq_true rfl), (Nat.le_of_ble_eq_true rfl)⟩ (Nat.le_of_ble_eq_true rfl) (fun q5 => ?_) (fun q5 => (ite_n (P := fun r : Nat × Int32 × ow_I => ox_e K S V z ((r).1) (some (.int ((r).2.1))) ((r).2.2)) (Nat.pos_iff_ne_zero.mp q5) hk).2 q5)
  replace hk := ite_p (P := fun r : Nat × Int32 × ow_I => ox_e K S V z ((r).1) (some (.int ((r).2.1))) ((r).2.2)) q5 hk
  refine or_iload_n E rfl dX10_addBarrel_8 ?_
  refine or_iconst (v := nI 1) E rfl dX10_addBarrel_9 ?_
  refine or_bipush (v := nI 9) E rfl dX10_addBarrel_10 ?_
  refine or_fT3v (cA_requireRange (Z := Z)   ) E G F lk_10_82 dX10_addBarrel_12 (by decide) (by decide) ⟨(Nat.le_of_ble_eq_true rfl), (Nat.le_of_ble_eq_true rfl)⟩ (Nat.le_of_ble_eq_true rfl) (fun q12 => ?_) (fun q12 => (ite_n (P := fun r : Nat × Int32 × ow_I => ox_e K S V z ((r).1) (some (.int ((r).2.1))) ((r).2.2)) (Nat.pos_iff_ne_zero.mp q12) hk).2 q12)
  replace hk := ite_p (P := fun r : Nat × Int32 × ow_I => ox_e K S V z ((r).1) (some (.int ((r).2.1))) ((r).2.2)) q12 hk
  refine or_iload_n E rfl dX10_addBarrel_15 ?_
  refine or_bipush (v := nI 10) E rfl dX10_addBarrel_16 ?_
  refine or_sipush (v := nI 150) E rfl dX10_addBarrel_18 ?_
  refine or_fT3v (cA_requireRange (Z := Z)   ) E G F lk_10_82 dX10_addBarrel_21 (by decide) (by decide) ⟨(Nat.le_of_ble_eq_true rfl), (Nat.le_of_ble_eq_true rfl)⟩ (Nat.le_of_ble_eq_true rfl) (fun q21 => ?_) (fun q21 => (ite_n (P := fun r : Nat × Int32 × ow_I => ox_e K S V z ((r).1) (some (.int ((r).2.1))) ((r).2.2)) (Nat.pos_iff_ne_zero.mp q21) hk).2 q21)
  replace hk := ite_p (P := fun r : Nat × Int32 × ow_I => ox_e K S V z ((r).1) (some (.int ((r).2.1))) ((r).2.2)) q21 hk
  refine or_aload_n E rfl dX10_addBarrel_24 ?_
  refine ot_getC E fl_10_10 dX10_addBarrel_25 h_x.1 rfl ?_
  refine or_cV0r (cK_hasRoom  h_x.2.1 ) E lk_10_147 dX10_addBarrel_28 h_x.2.1.1 rfl rfl (by decide) (by decide) ⟨(Nat.le_of_ble_eq_true rfl), (Nat.le_of_ble_eq_true rfl)⟩ (Nat.le_of_ble_eq_true rfl) ?_
  refine or_fT1v (cA_requireState (Z := Z)   ) E G F lk_10_134 dX10_addBarrel_31 (by decide) (by decide) ⟨(Nat.le_of_ble_eq_true rfl), (Nat.le_of_ble_eq_true rfl)⟩ (Nat.le_of_ble_eq_true rfl) (fun q31 => ?_) (fun q31 => (ite_n (P := fun r : Nat × Int32 × ow_I => ox_e K S V z ((r).1) (some (.int ((r).2.1))) ((r).2.2)) (Nat.pos_iff_ne_zero.mp q31) hk).2 q31)
  replace hk := ite_p (P := fun r : Nat × Int32 × ow_I => ox_e K S V z ((r).1) (some (.int ((r).2.1))) ((r).2.2)) q31 hk
  refine or_aload_n E rfl dX10_addBarrel_34 ?_
  refine ot_getC E fl_10_22 dX10_addBarrel_35 h_x.1 rfl ?_
  refine or_aload_n E rfl dX10_addBarrel_38 ?_
  refine ot_getC E fl_10_10 dX10_addBarrel_39 h_x.1 rfl ?_
  refine or_cV1v (cH_remember  h_x.2.2.2.1 h_x.2.1 (by omega) hX.2.2.2.2.1.1 hX.2.2.2.2.1.2 hX.1.1.1 hX.1.1.2 hX.1.2.1.1 hX.1.2.1.2) E lk_10_97 dX10_addBarrel_42 h_x.2.2.2.1.1 rfl rfl (by decide) (by decide) ⟨(Nat.le_of_ble_eq_true rfl), (Nat.le_of_ble_eq_true rfl)⟩ (Nat.le_of_ble_eq_true rfl) ?_
  obtain ⟨I1, hI1⟩ : ∃ y_ : ow_I, y_ = H_remember (x + 103) (x + 1) I := ⟨_, rfl⟩
  replace hk := lt_k (P := fun r : Nat × Int32 × ow_I => ox_e K S V z ((r).1) (some (.int ((r).2.1))) ((r).2.2)) hI1 hk
  refine or_nmI hI1 ?_
  refine or_aload_n E rfl dX10_addBarrel_45 ?_
  refine ot_getC E fl_10_41 dX10_addBarrel_46 h_x.1 rfl ?_
  refine or_iload_n E rfl dX10_addBarrel_49 ?_
  refine or_fT2v (cj7_fill_53178 (Z := Z)  h_x.2.2.2.2.2.2.2.1 ) E G F lk_10_151 dX10_addBarrel_50 (by decide) (by decide) ⟨(Nat.le_of_ble_eq_true rfl), (Nat.le_of_ble_eq_true rfl)⟩ (Nat.le_of_ble_eq_true rfl) (fun _ => ?_) (fun h => absurd h (Nat.lt_irrefl 0))
  obtain ⟨I2, hI2⟩ : ∃ y_ : ow_I, y_ = j7_fill_53178 (x + 561) l I1 := ⟨_, rfl⟩
  replace hk := lt_k (P := fun r : Nat × Int32 × ow_I => ox_e K S V z ((r).1) (some (.int ((r).2.1))) ((r).2.2)) hI2 hk
  refine or_nmI hI2 ?_
  refine or_aload_n E rfl dX10_addBarrel_53 ?_
  refine ot_getC E fl_10_10 dX10_addBarrel_54 h_x.1 rfl ?_
  refine or_iload_n E rfl dX10_addBarrel_57 ?_
  refine or_aload_n E rfl dX10_addBarrel_58 ?_
  refine ot_getC E fl_10_41 dX10_addBarrel_59 h_x.1 rfl ?_
  refine or_iconst (v := nI 0) E rfl dX10_addBarrel_62 ?_
  refine or_iload_n E rfl dX10_addBarrel_63 ?_
  refine or_top (nI_tn (by subst hI2 hI1; exact (rg_0 (by decide) q12))).symm ?_
  refine or_cV4r (cK_takeBarrel  h_x.2.1 h_x.2.2.2.2.2.2.2.1 (by subst hI2 hI1; exact (kV_eq (kV_rem hX) (fun b h1 h2 => rr_fill (by omega)))) (by subst hI2 hI1; decide) (by subst hI2 hI1; exact (tn_lt _))) E lk_10_157 dX10_addBarrel_64 h_x.2.1.1 rfl rfl (by decide) (by decide) ⟨(Nat.le_of_ble_eq_true rfl), (Nat.le_of_ble_eq_true rfl)⟩ (Nat.le_of_ble_eq_true rfl) ?_
  obtain ⟨r3, hr3⟩ : ∃ y_ : Int32 × ow_I, y_ = K_takeBarrel (x + 1) r (x + 561) 0 (tn n) I2 := ⟨_, rfl⟩
  replace hk := lt_k (P := fun r : Nat × Int32 × ow_I => ox_e K S V z ((r).1) (some (.int ((r).2.1))) ((r).2.2)) hr3 hk
  refine or_nmJ hr3 ?_
  try dsimp only at hk
  exact or_xr E F (fun X' E' F' => or_iret E' F' dX10_addBarrel_67 (Nat.le_of_ble_eq_true rfl) (Nat.le_of_ble_eq_true rfl) (hk.1 rfl))
def A_split (x : Nat) (b : Int32) (n : Int32) (I : ow_I) : Nat × Int32 × ow_I :=
  if A_requireBarrel x b I = 0 then if A_requireRange n (nI 1) (nI 8) I = 0 then if A_requireState (K_canCut (x + 1) b n I) I = 0 then lt (H_remember (x + 103) (x + 1) I) (fun (I1 : ow_I) => lt (K_cut (x + 1) b n I1) (fun (r2 : Int32 × ow_I) => (0, r2.1, r2.2))) else (A_requireState (K_canCut (x + 1) b n I) I, 0, I) else (A_requireRange n (nI 1) (nI 8) I, 0, I) else (A_requireBarrel x b I, 0, I)
set_option maxRecDepth 100000 in
set_option maxHeartbeats 400000 in
theorem cA_split {Z : Nat → Nat} {S : Nat → Option ow_Sh} {I : ow_I} {V : Nat → Nat → Value} {z : Nat} {x : Nat} {b : Int32} {n : Int32} (h_x : au_S S x) (hX : au_V x I) : ow_Cx Z yX10_split cX10_split 3 (some .int) 10 3 18 [.ref x, .int b, .int n] (S, I, V, z) (ox_s S V z ((A_split x b n I).1) (some (.int ((A_split x b n I).2.1))) ((A_split x b n I).2.2)) := by
  refine ow_Cx.off rfl (Nat.le_of_ble_eq_true rfl) (fun X K E G F hk => ?_)
  have E : ow_E X RX10 cX10_split 3 (ow_rm 10 3 18) := E
  refine or_lv [(0, .ref x), (1, .int b), (2, .int n)] rfl ?_
  try dsimp only [A_split] at hk
  refine or_aload_n E rfl dX10_split_0 ?_
  refine or_iload_n E rfl dX10_split_1 ?_
  refine or_fV1v (cA_requireBarrel (Z := Z)  h_x ) E G F lk_10_161 dX10_split_2 h_x.1 rfl rfl (by decide) (by decide) ⟨(Nat.le_of_ble_eq_true rfl), (Nat.le_of_ble_eq_true rfl)⟩ (Nat.le_of_ble_eq_true rfl) (fun q2 => ?_) (fun q2 => (ite_n (P := fun r : Nat × Int32 × ow_I => ox_e K S V z ((r).1) (some (.int ((r).2.1))) ((r).2.2)) (Nat.pos_iff_ne_zero.mp q2) hk).2 q2)
  replace hk := ite_p (P := fun r : Nat × Int32 × ow_I => ox_e K S V z ((r).1) (some (.int ((r).2.1))) ((r).2.2)) q2 hk
  refine or_iload_n E rfl dX10_split_5 ?_
  refine or_iconst (v := nI 1) E rfl dX10_split_6 ?_
  refine or_bipush (v := nI 8) E rfl dX10_split_7 ?_
  refine or_fT3v (cA_requireRange (Z := Z)   ) E G F lk_10_82 dX10_split_9 (by decide) (by decide) ⟨(Nat.le_of_ble_eq_true rfl), (Nat.le_of_ble_eq_true rfl)⟩ (Nat.le_of_ble_eq_true rfl) (fun q9 => ?_) (fun q9 => (ite_n (P := fun r : Nat × Int32 × ow_I => ox_e K S V z ((r).1) (some (.int ((r).2.1))) ((r).2.2)) (Nat.pos_iff_ne_zero.mp q9) hk).2 q9)
  replace hk := ite_p (P := fun r : Nat × Int32 × ow_I => ox_e K S V z ((r).1) (some (.int ((r).2.1))) ((r).2.2)) q9 hk
  refine or_aload_n E rfl dX10_split_12 ?_
  refine ot_getC E fl_10_10 dX10_split_13 h_x.1 rfl ?_
  refine or_iload_n E rfl dX10_split_16 ?_
  refine or_iload_n E rfl dX10_split_17 ?_
  refine or_cV2r (cK_canCut  h_x.2.1 hX.1) E lk_10_164 dX10_split_18 h_x.2.1.1 rfl rfl (by decide) (by decide) ⟨(Nat.le_of_ble_eq_true rfl), (Nat.le_of_ble_eq_true rfl)⟩ (Nat.le_of_ble_eq_true rfl) ?_
  refine or_fT1v (cA_requireState (Z := Z)   ) E G F lk_10_134 dX10_split_21 (by decide) (by decide) ⟨(Nat.le_of_ble_eq_true rfl), (Nat.le_of_ble_eq_true rfl)⟩ (Nat.le_of_ble_eq_true rfl) (fun q21 => ?_) (fun q21 => (ite_n (P := fun r : Nat × Int32 × ow_I => ox_e K S V z ((r).1) (some (.int ((r).2.1))) ((r).2.2)) (Nat.pos_iff_ne_zero.mp q21) hk).2 q21)
  replace hk := ite_p (P := fun r : Nat × Int32 × ow_I => ox_e K S V z ((r).1) (some (.int ((r).2.1))) ((r).2.2)) q21 hk
  refine or_aload_n E rfl dX10_split_24 ?_
  refine ot_getC E fl_10_22 dX10_split_25 h_x.1 rfl ?_
  refine or_aload_n E rfl dX10_split_28 ?_
  refine ot_getC E fl_10_10 dX10_split_29 h_x.1 rfl ?_
  refine or_cV1v (cH_remember  h_x.2.2.2.1 h_x.2.1 (by omega) hX.2.2.2.2.1.1 hX.2.2.2.2.1.2 hX.1.1.1 hX.1.1.2 hX.1.2.1.1 hX.1.2.1.2) E lk_10_97 dX10_split_32 h_x.2.2.2.1.1 rfl rfl (by decide) (by decide) ⟨(Nat.le_of_ble_eq_true rfl), (Nat.le_of_ble_eq_true rfl)⟩ (Nat.le_of_ble_eq_true rfl) ?_
  obtain ⟨I1, hI1⟩ : ∃ y_ : ow_I, y_ = H_remember (x + 103) (x + 1) I := ⟨_, rfl⟩
  replace hk := lt_k (P := fun r : Nat × Int32 × ow_I => ox_e K S V z ((r).1) (some (.int ((r).2.1))) ((r).2.2)) hI1 hk
  refine or_nmI hI1 ?_
  refine or_aload_n E rfl dX10_split_35 ?_
  refine ot_getC E fl_10_10 dX10_split_36 h_x.1 rfl ?_
  refine or_iload_n E rfl dX10_split_39 ?_
  refine or_iload_n E rfl dX10_split_40 ?_
  refine or_cV2r (cK_cut  h_x.2.1 (by subst hI1; exact (kV_rem hX))) E lk_10_168 dX10_split_41 h_x.2.1.1 rfl rfl (by decide) (by decide) ⟨(Nat.le_of_ble_eq_true rfl), (Nat.le_of_ble_eq_true rfl)⟩ (Nat.le_of_ble_eq_true rfl) ?_
  obtain ⟨r2, hr2⟩ : ∃ y_ : Int32 × ow_I, y_ = K_cut (x + 1) b n I1 := ⟨_, rfl⟩
  replace hk := lt_k (P := fun r : Nat × Int32 × ow_I => ox_e K S V z ((r).1) (some (.int ((r).2.1))) ((r).2.2)) hr2 hk
  refine or_nmJ hr2 ?_
  try dsimp only at hk
  exact or_xr E F (fun X' E' F' => or_iret E' F' dX10_split_44 (Nat.le_of_ble_eq_true rfl) (Nat.le_of_ble_eq_true rfl) (hk.1 rfl))
def A_withdraw (x : Nat) (b : Int32) (I : ow_I) : Nat × Int32 × ow_I :=
  if A_requireBarrel x b I = 0 then if A_requireState (K_isWaiting (x + 1) b I) I = 0 then lt (H_remember (x + 103) (x + 1) I) (fun (I1 : ow_I) => lt (K_takeAway (x + 1) b I1) (fun (I2 : ow_I) => (0, I2 (x + 1) 12, I2))) else (A_requireState (K_isWaiting (x + 1) b I) I, 0, I) else (A_requireBarrel x b I, 0, I)
set_option maxRecDepth 100000 in
set_option maxHeartbeats 400000 in
theorem cA_withdraw {Z : Nat → Nat} {S : Nat → Option ow_Sh} {I : ow_I} {V : Nat → Nat → Value} {z : Nat} {x : Nat} {b : Int32} (h_x : au_S S x) (hX : au_V x I) : ow_Cx Z yX10_withdraw cX10_withdraw 2 (some .int) 10 2 12 [.ref x, .int b] (S, I, V, z) (ox_s S V z ((A_withdraw x b I).1) (some (.int ((A_withdraw x b I).2.1))) ((A_withdraw x b I).2.2)) := by
  refine ow_Cx.off rfl (Nat.le_of_ble_eq_true rfl) (fun X K E G F hk => ?_)
  have E : ow_E X RX10 cX10_withdraw 2 (ow_rm 10 2 12) := E
  refine or_lv [(0, .ref x), (1, .int b)] rfl ?_
  try dsimp only [A_withdraw] at hk
  refine or_aload_n E rfl dX10_withdraw_0 ?_
  refine or_iload_n E rfl dX10_withdraw_1 ?_
  refine or_fV1v (cA_requireBarrel (Z := Z)  h_x ) E G F lk_10_161 dX10_withdraw_2 h_x.1 rfl rfl (by decide) (by decide) ⟨(Nat.le_of_ble_eq_true rfl), (Nat.le_of_ble_eq_true rfl)⟩ (Nat.le_of_ble_eq_true rfl) (fun q2 => ?_) (fun q2 => (ite_n (P := fun r : Nat × Int32 × ow_I => ox_e K S V z ((r).1) (some (.int ((r).2.1))) ((r).2.2)) (Nat.pos_iff_ne_zero.mp q2) hk).2 q2)
  replace hk := ite_p (P := fun r : Nat × Int32 × ow_I => ox_e K S V z ((r).1) (some (.int ((r).2.1))) ((r).2.2)) q2 hk
  refine or_aload_n E rfl dX10_withdraw_5 ?_
  refine ot_getC E fl_10_10 dX10_withdraw_6 h_x.1 rfl ?_
  refine or_iload_n E rfl dX10_withdraw_9 ?_
  refine or_cV1r (cK_isWaiting  h_x.2.1 hX.1) E lk_10_172 dX10_withdraw_10 h_x.2.1.1 rfl rfl (by decide) (by decide) ⟨(Nat.le_of_ble_eq_true rfl), (Nat.le_of_ble_eq_true rfl)⟩ (Nat.le_of_ble_eq_true rfl) ?_
  refine or_fT1v (cA_requireState (Z := Z)   ) E G F lk_10_134 dX10_withdraw_13 (by decide) (by decide) ⟨(Nat.le_of_ble_eq_true rfl), (Nat.le_of_ble_eq_true rfl)⟩ (Nat.le_of_ble_eq_true rfl) (fun q13 => ?_) (fun q13 => (ite_n (P := fun r : Nat × Int32 × ow_I => ox_e K S V z ((r).1) (some (.int ((r).2.1))) ((r).2.2)) (Nat.pos_iff_ne_zero.mp q13) hk).2 q13)
  replace hk := ite_p (P := fun r : Nat × Int32 × ow_I => ox_e K S V z ((r).1) (some (.int ((r).2.1))) ((r).2.2)) q13 hk
  refine or_aload_n E rfl dX10_withdraw_16 ?_
  refine ot_getC E fl_10_22 dX10_withdraw_17 h_x.1 rfl ?_
  refine or_aload_n E rfl dX10_withdraw_20 ?_
  refine ot_getC E fl_10_10 dX10_withdraw_21 h_x.1 rfl ?_
  refine or_cV1v (cH_remember  h_x.2.2.2.1 h_x.2.1 (by omega) hX.2.2.2.2.1.1 hX.2.2.2.2.1.2 hX.1.1.1 hX.1.1.2 hX.1.2.1.1 hX.1.2.1.2) E lk_10_97 dX10_withdraw_24 h_x.2.2.2.1.1 rfl rfl (by decide) (by decide) ⟨(Nat.le_of_ble_eq_true rfl), (Nat.le_of_ble_eq_true rfl)⟩ (Nat.le_of_ble_eq_true rfl) ?_
  obtain ⟨I1, hI1⟩ : ∃ y_ : ow_I, y_ = H_remember (x + 103) (x + 1) I := ⟨_, rfl⟩
  replace hk := lt_k (P := fun r : Nat × Int32 × ow_I => ox_e K S V z ((r).1) (some (.int ((r).2.1))) ((r).2.2)) hI1 hk
  refine or_nmI hI1 ?_
  refine or_aload_n E rfl dX10_withdraw_27 ?_
  refine ot_getC E fl_10_10 dX10_withdraw_28 h_x.1 rfl ?_
  refine or_iload_n E rfl dX10_withdraw_31 ?_
  refine or_cV1v (cK_takeAway  h_x.2.1 (by subst hI1; exact (kV_rem hX))) E lk_10_175 dX10_withdraw_32 h_x.2.1.1 rfl rfl (by decide) (by decide) ⟨(Nat.le_of_ble_eq_true rfl), (Nat.le_of_ble_eq_true rfl)⟩ (Nat.le_of_ble_eq_true rfl) ?_
  obtain ⟨I2, hI2⟩ : ∃ y_ : ow_I, y_ = K_takeAway (x + 1) b I1 := ⟨_, rfl⟩
  replace hk := lt_k (P := fun r : Nat × Int32 × ow_I => ox_e K S V z ((r).1) (some (.int ((r).2.1))) ((r).2.2)) hI2 hk
  refine or_nmI hI2 ?_
  refine or_aload_n E rfl dX10_withdraw_35 ?_
  refine ot_getC E fl_10_10 dX10_withdraw_36 h_x.1 rfl ?_
  refine ot_getI E fl_10_178 dX10_withdraw_39 h_x.2.1.1 rfl ?_
  try dsimp only at hk
  exact or_xr E F (fun X' E' F' => or_iret E' F' dX10_withdraw_42 (Nat.le_of_ble_eq_true rfl) (Nat.le_of_ble_eq_true rfl) (hk.1 rfl))
def A_fund (x : Nat) (b : Int32) (c : Int32) (I : ow_I) : Nat × Int32 × ow_I :=
  if A_requireBuyer x b I = 0 then if A_requireRange c (nI 1) (nI 9999) I = 0 then lt (H_remember (x + 103) (x + 1) I) (fun (I1 : ow_I) => lt (K_putCoins (x + 1) b c I1) (fun (I2 : ow_I) => (0, I2 ((x + 1) + 5 + (tn b)) 0, I2))) else (A_requireRange c (nI 1) (nI 9999) I, 0, I) else (A_requireBuyer x b I, 0, I)
set_option maxRecDepth 100000 in
set_option maxHeartbeats 400000 in
theorem cA_fund {Z : Nat → Nat} {S : Nat → Option ow_Sh} {I : ow_I} {V : Nat → Nat → Value} {z : Nat} {x : Nat} {b : Int32} {c : Int32} (h_x : au_S S x) (hX : au_V x I) : ow_Cx Z yX10_fund cX10_fund 3 (some .int) 10 2 12 [.ref x, .int b, .int c] (S, I, V, z) (ox_s S V z ((A_fund x b c I).1) (some (.int ((A_fund x b c I).2.1))) ((A_fund x b c I).2.2)) := by
  refine ow_Cx.off rfl (Nat.le_of_ble_eq_true rfl) (fun X K E G F hk => ?_)
  have E : ow_E X RX10 cX10_fund 3 (ow_rm 10 2 12) := E
  refine or_lv [(0, .ref x), (1, .int b), (2, .int c)] rfl ?_
  try dsimp only [A_fund] at hk
  refine or_aload_n E rfl dX10_fund_0 ?_
  refine or_iload_n E rfl dX10_fund_1 ?_
  refine or_fV1v (cA_requireBuyer (Z := Z)  h_x ) E G F lk_10_127 dX10_fund_2 h_x.1 rfl rfl (by decide) (by decide) ⟨(Nat.le_of_ble_eq_true rfl), (Nat.le_of_ble_eq_true rfl)⟩ (Nat.le_of_ble_eq_true rfl) (fun q2 => ?_) (fun q2 => (ite_n (P := fun r : Nat × Int32 × ow_I => ox_e K S V z ((r).1) (some (.int ((r).2.1))) ((r).2.2)) (Nat.pos_iff_ne_zero.mp q2) hk).2 q2)
  replace hk := ite_p (P := fun r : Nat × Int32 × ow_I => ox_e K S V z ((r).1) (some (.int ((r).2.1))) ((r).2.2)) q2 hk
  refine or_iload_n E rfl dX10_fund_5 ?_
  refine or_iconst (v := nI 1) E rfl dX10_fund_6 ?_
  refine or_sipush (v := nI 9999) E rfl dX10_fund_7 ?_
  refine or_fT3v (cA_requireRange (Z := Z)   ) E G F lk_10_82 dX10_fund_10 (by decide) (by decide) ⟨(Nat.le_of_ble_eq_true rfl), (Nat.le_of_ble_eq_true rfl)⟩ (Nat.le_of_ble_eq_true rfl) (fun q10 => ?_) (fun q10 => (ite_n (P := fun r : Nat × Int32 × ow_I => ox_e K S V z ((r).1) (some (.int ((r).2.1))) ((r).2.2)) (Nat.pos_iff_ne_zero.mp q10) hk).2 q10)
  replace hk := ite_p (P := fun r : Nat × Int32 × ow_I => ox_e K S V z ((r).1) (some (.int ((r).2.1))) ((r).2.2)) q10 hk
  refine or_aload_n E rfl dX10_fund_13 ?_
  refine ot_getC E fl_10_22 dX10_fund_14 h_x.1 rfl ?_
  refine or_aload_n E rfl dX10_fund_17 ?_
  refine ot_getC E fl_10_10 dX10_fund_18 h_x.1 rfl ?_
  refine or_cV1v (cH_remember  h_x.2.2.2.1 h_x.2.1 (by omega) hX.2.2.2.2.1.1 hX.2.2.2.2.1.2 hX.1.1.1 hX.1.1.2 hX.1.2.1.1 hX.1.2.1.2) E lk_10_97 dX10_fund_21 h_x.2.2.2.1.1 rfl rfl (by decide) (by decide) ⟨(Nat.le_of_ble_eq_true rfl), (Nat.le_of_ble_eq_true rfl)⟩ (Nat.le_of_ble_eq_true rfl) ?_
  obtain ⟨I1, hI1⟩ : ∃ y_ : ow_I, y_ = H_remember (x + 103) (x + 1) I := ⟨_, rfl⟩
  replace hk := lt_k (P := fun r : Nat × Int32 × ow_I => ox_e K S V z ((r).1) (some (.int ((r).2.1))) ((r).2.2)) hI1 hk
  refine or_nmI hI1 ?_
  refine or_aload_n E rfl dX10_fund_24 ?_
  refine ot_getC E fl_10_10 dX10_fund_25 h_x.1 rfl ?_
  refine or_iload_n E rfl dX10_fund_28 ?_
  refine or_iload_n E rfl dX10_fund_29 ?_
  refine or_cV2v (cK_putCoins  h_x.2.1 (by subst hI1; exact (kV_rem hX))) E lk_10_181 dX10_fund_30 h_x.2.1.1 rfl rfl (by decide) (by decide) ⟨(Nat.le_of_ble_eq_true rfl), (Nat.le_of_ble_eq_true rfl)⟩ (Nat.le_of_ble_eq_true rfl) ?_
  obtain ⟨I2, hI2⟩ : ∃ y_ : ow_I, y_ = K_putCoins (x + 1) b c I1 := ⟨_, rfl⟩
  replace hk := lt_k (P := fun r : Nat × Int32 × ow_I => ox_e K S V z ((r).1) (some (.int ((r).2.1))) ((r).2.2)) hI2 hk
  refine or_nmI hI2 ?_
  refine or_aload_n E rfl dX10_fund_33 ?_
  refine ot_getC E fl_10_10 dX10_fund_34 h_x.1 rfl ?_
  refine ot_getC E fl_10_185 dX10_fund_37 h_x.2.1.1 rfl ?_
  refine or_iload_n E rfl dX10_fund_40 ?_
  refine or_top (nI_tn (by subst hI2 hI1; exact (ry_0' q2).1)).symm ?_
  refine ot_aald (j := tn b) E dX10_fund_41 h_x.2.1.2.2.1 rfl rfl (by subst hI2 hI1; have h9 := (ry_0' q2).2; have h8 := hX.1.1.2; omega) (Nat.le_of_ble_eq_true rfl) ?_
  refine ot_getI E fl_10_189 dX10_fund_42 (h_x.2.1.2.2.2.2.2.1 (tn b) (by subst hI2 hI1; have h9 := (ry_0' q2).2; have h8 := hX.1.1.2; omega)) rfl ?_
  try dsimp only at hk
  exact or_xr E F (fun X' E' F' => or_iret E' F' dX10_fund_45 (Nat.le_of_ble_eq_true rfl) (Nat.le_of_ble_eq_true rfl) (hk.1 rfl))
def A_setReserve (x : Nat) (b : Int32) (r : Int32) (I : ow_I) : Nat × Int32 × ow_I :=
  if A_requireBarrel x b I = 0 then if A_requireRange r (nI 1) (nI 999) I = 0 then if A_requireState (K_isWaiting (x + 1) b I) I = 0 then lt (H_remember (x + 103) (x + 1) I) (fun (I1 : ow_I) => lt (ow_u I1 ((x + 1) + 11 + 2 * (tn b)) 5 r) (fun (I2 : ow_I) => (0, I1 ((x + 1) + 11 + 2 * (tn b)) 5, I2))) else (A_requireState (K_isWaiting (x + 1) b I) I, 0, I) else (A_requireRange r (nI 1) (nI 999) I, 0, I) else (A_requireBarrel x b I, 0, I)
set_option maxRecDepth 100000 in
set_option maxHeartbeats 400000 in
theorem cA_setReserve {Z : Nat → Nat} {S : Nat → Option ow_Sh} {I : ow_I} {V : Nat → Nat → Value} {z : Nat} {x : Nat} {b : Int32} {r : Int32} (h_x : au_S S x) (hX : au_V x I) : ow_Cx Z yX10_setReserve cX10_setReserve 4 (some .int) 10 3 18 [.ref x, .int b, .int r] (S, I, V, z) (ox_s S V z ((A_setReserve x b r I).1) (some (.int ((A_setReserve x b r I).2.1))) ((A_setReserve x b r I).2.2)) := by
  refine ow_Cx.off rfl (Nat.le_of_ble_eq_true rfl) (fun X K E G F hk => ?_)
  have E : ow_E X RX10 cX10_setReserve 4 (ow_rm 10 3 18) := E
  refine or_lv [(0, .ref x), (1, .int b), (2, .int r)] rfl ?_
  try dsimp only [A_setReserve] at hk
  refine or_aload_n E rfl dX10_setReserve_0 ?_
  refine or_iload_n E rfl dX10_setReserve_1 ?_
  refine or_fV1v (cA_requireBarrel (Z := Z)  h_x ) E G F lk_10_161 dX10_setReserve_2 h_x.1 rfl rfl (by decide) (by decide) ⟨(Nat.le_of_ble_eq_true rfl), (Nat.le_of_ble_eq_true rfl)⟩ (Nat.le_of_ble_eq_true rfl) (fun q2 => ?_) (fun q2 => (ite_n (P := fun r : Nat × Int32 × ow_I => ox_e K S V z ((r).1) (some (.int ((r).2.1))) ((r).2.2)) (Nat.pos_iff_ne_zero.mp q2) hk).2 q2)
  replace hk := ite_p (P := fun r : Nat × Int32 × ow_I => ox_e K S V z ((r).1) (some (.int ((r).2.1))) ((r).2.2)) q2 hk
  refine or_iload_n E rfl dX10_setReserve_5 ?_
  refine or_iconst (v := nI 1) E rfl dX10_setReserve_6 ?_
  refine or_sipush (v := nI 999) E rfl dX10_setReserve_7 ?_
  refine or_fT3v (cA_requireRange (Z := Z)   ) E G F lk_10_82 dX10_setReserve_10 (by decide) (by decide) ⟨(Nat.le_of_ble_eq_true rfl), (Nat.le_of_ble_eq_true rfl)⟩ (Nat.le_of_ble_eq_true rfl) (fun q10 => ?_) (fun q10 => (ite_n (P := fun r : Nat × Int32 × ow_I => ox_e K S V z ((r).1) (some (.int ((r).2.1))) ((r).2.2)) (Nat.pos_iff_ne_zero.mp q10) hk).2 q10)
  replace hk := ite_p (P := fun r : Nat × Int32 × ow_I => ox_e K S V z ((r).1) (some (.int ((r).2.1))) ((r).2.2)) q10 hk
  refine or_aload_n E rfl dX10_setReserve_13 ?_
  refine ot_getC E fl_10_10 dX10_setReserve_14 h_x.1 rfl ?_
  refine or_iload_n E rfl dX10_setReserve_17 ?_
  refine or_cV1r (cK_isWaiting  h_x.2.1 hX.1) E lk_10_172 dX10_setReserve_18 h_x.2.1.1 rfl rfl (by decide) (by decide) ⟨(Nat.le_of_ble_eq_true rfl), (Nat.le_of_ble_eq_true rfl)⟩ (Nat.le_of_ble_eq_true rfl) ?_
  refine or_fT1v (cA_requireState (Z := Z)   ) E G F lk_10_134 dX10_setReserve_21 (by decide) (by decide) ⟨(Nat.le_of_ble_eq_true rfl), (Nat.le_of_ble_eq_true rfl)⟩ (Nat.le_of_ble_eq_true rfl) (fun q21 => ?_) (fun q21 => (ite_n (P := fun r : Nat × Int32 × ow_I => ox_e K S V z ((r).1) (some (.int ((r).2.1))) ((r).2.2)) (Nat.pos_iff_ne_zero.mp q21) hk).2 q21)
  replace hk := ite_p (P := fun r : Nat × Int32 × ow_I => ox_e K S V z ((r).1) (some (.int ((r).2.1))) ((r).2.2)) q21 hk
  refine or_aload_n E rfl dX10_setReserve_24 ?_
  refine ot_getC E fl_10_22 dX10_setReserve_25 h_x.1 rfl ?_
  refine or_aload_n E rfl dX10_setReserve_28 ?_
  refine ot_getC E fl_10_10 dX10_setReserve_29 h_x.1 rfl ?_
  refine or_cV1v (cH_remember  h_x.2.2.2.1 h_x.2.1 (by omega) hX.2.2.2.2.1.1 hX.2.2.2.2.1.2 hX.1.1.1 hX.1.1.2 hX.1.2.1.1 hX.1.2.1.2) E lk_10_97 dX10_setReserve_32 h_x.2.2.2.1.1 rfl rfl (by decide) (by decide) ⟨(Nat.le_of_ble_eq_true rfl), (Nat.le_of_ble_eq_true rfl)⟩ (Nat.le_of_ble_eq_true rfl) ?_
  obtain ⟨I1, hI1⟩ : ∃ y_ : ow_I, y_ = H_remember (x + 103) (x + 1) I := ⟨_, rfl⟩
  replace hk := lt_k (P := fun r : Nat × Int32 × ow_I => ox_e K S V z ((r).1) (some (.int ((r).2.1))) ((r).2.2)) hI1 hk
  refine or_nmI hI1 ?_
  refine or_aload_n E rfl dX10_setReserve_35 ?_
  refine ot_getC E fl_10_10 dX10_setReserve_36 h_x.1 rfl ?_
  refine ot_getC E fl_10_194 dX10_setReserve_39 h_x.2.1.1 rfl ?_
  refine or_iload_n E rfl dX10_setReserve_42 ?_
  refine or_top (nI_tn (by subst hI1; exact (rb_0' q2).1)).symm ?_
  refine ot_aald (j := tn b) E dX10_setReserve_43 h_x.2.1.2.2.2.1 rfl rfl (by subst hI1; have h9 := (rb_0' q2).2; have h8 := hX.1.2.1.2; omega) (Nat.le_of_ble_eq_true rfl) ?_
  refine ot_getI E fl_10_198 dX10_setReserve_44 (h_x.2.1.2.2.2.2.2.2 (tn b) (by subst hI1; have h9 := (rb_0' q2).2; have h8 := hX.1.2.1.2; omega)).1 rfl ?_
  refine or_istore_n E dX10_setReserve_47 (by decide) ?_
  refine or_aload_n E rfl dX10_setReserve_48 ?_
  refine ot_getC E fl_10_10 dX10_setReserve_49 h_x.1 rfl ?_
  refine ot_getC E fl_10_194 dX10_setReserve_52 h_x.2.1.1 rfl ?_
  refine or_iload_n E rfl dX10_setReserve_55 ?_
  refine or_top (nI_tn (by subst hI1; exact (rb_0' q2).1)).symm ?_
  refine ot_aald (j := tn b) E dX10_setReserve_56 h_x.2.1.2.2.2.1 rfl rfl (by subst hI1; have h9 := (rb_0' q2).2; have h8 := hX.1.2.1.2; omega) (Nat.le_of_ble_eq_true rfl) ?_
  refine or_iload_n E rfl dX10_setReserve_57 ?_
  refine ot_putI E fl_10_198 fw_1_5 dX10_setReserve_58 (h_x.2.1.2.2.2.2.2.2 (tn b) (by subst hI1; have h9 := (rb_0' q2).2; have h8 := hX.1.2.1.2; omega)).1 rfl ?_
  obtain ⟨I2, hI2⟩ : ∃ y_ : ow_I, y_ = ow_u I1 ((x + 1) + 11 + 2 * (tn b)) 5 r := ⟨_, rfl⟩
  replace hk := lt_k (P := fun r : Nat × Int32 × ow_I => ox_e K S V z ((r).1) (some (.int ((r).2.1))) ((r).2.2)) hI2 hk
  refine or_nmI hI2 ?_
  refine or_iload_n E rfl dX10_setReserve_61 ?_
  try dsimp only at hk
  exact or_xr E F (fun X' E' F' => or_iret E' F' dX10_setReserve_62 (Nat.le_of_ble_eq_true rfl) (Nat.le_of_ble_eq_true rfl) (hk.1 rfl))
def A_setStep (x : Nat) (s : Int32) (I : ow_I) : Nat × Int32 × ow_I :=
  if A_requireRange s (nI 1) (nI 50) I = 0 then lt (H_remember (x + 103) (x + 1) I) (fun (I1 : ow_I) => lt (ow_u I1 (x + 1) 2 s) (fun (I2 : ow_I) => (0, I1 (x + 1) 2, I2))) else (A_requireRange s (nI 1) (nI 50) I, 0, I)
set_option maxRecDepth 100000 in
set_option maxHeartbeats 400000 in
theorem cA_setStep {Z : Nat → Nat} {S : Nat → Option ow_Sh} {I : ow_I} {V : Nat → Nat → Value} {z : Nat} {x : Nat} {s : Int32} (h_x : au_S S x) (hX : au_V x I) : ow_Cx Z yX10_setStep cX10_setStep 3 (some .int) 10 1 6 [.ref x, .int s] (S, I, V, z) (ox_s S V z ((A_setStep x s I).1) (some (.int ((A_setStep x s I).2.1))) ((A_setStep x s I).2.2)) := by
  refine ow_Cx.off rfl (Nat.le_of_ble_eq_true rfl) (fun X K E G F hk => ?_)
  have E : ow_E X RX10 cX10_setStep 3 (ow_rm 10 1 6) := E
  refine or_lv [(0, .ref x), (1, .int s)] rfl ?_
  try dsimp only [A_setStep] at hk
  refine or_iload_n E rfl dX10_setStep_0 ?_
  refine or_iconst (v := nI 1) E rfl dX10_setStep_1 ?_
  refine or_bipush (v := nI 50) E rfl dX10_setStep_2 ?_
  refine or_fT3v (cA_requireRange (Z := Z)   ) E G F lk_10_82 dX10_setStep_4 (by decide) (by decide) ⟨(Nat.le_of_ble_eq_true rfl), (Nat.le_of_ble_eq_true rfl)⟩ (Nat.le_of_ble_eq_true rfl) (fun q4 => ?_) (fun q4 => (ite_n (P := fun r : Nat × Int32 × ow_I => ox_e K S V z ((r).1) (some (.int ((r).2.1))) ((r).2.2)) (Nat.pos_iff_ne_zero.mp q4) hk).2 q4)
  replace hk := ite_p (P := fun r : Nat × Int32 × ow_I => ox_e K S V z ((r).1) (some (.int ((r).2.1))) ((r).2.2)) q4 hk
  refine or_aload_n E rfl dX10_setStep_7 ?_
  refine ot_getC E fl_10_22 dX10_setStep_8 h_x.1 rfl ?_
  refine or_aload_n E rfl dX10_setStep_11 ?_
  refine ot_getC E fl_10_10 dX10_setStep_12 h_x.1 rfl ?_
  refine or_cV1v (cH_remember  h_x.2.2.2.1 h_x.2.1 (by omega) hX.2.2.2.2.1.1 hX.2.2.2.2.1.2 hX.1.1.1 hX.1.1.2 hX.1.2.1.1 hX.1.2.1.2) E lk_10_97 dX10_setStep_15 h_x.2.2.2.1.1 rfl rfl (by decide) (by decide) ⟨(Nat.le_of_ble_eq_true rfl), (Nat.le_of_ble_eq_true rfl)⟩ (Nat.le_of_ble_eq_true rfl) ?_
  obtain ⟨I1, hI1⟩ : ∃ y_ : ow_I, y_ = H_remember (x + 103) (x + 1) I := ⟨_, rfl⟩
  replace hk := lt_k (P := fun r : Nat × Int32 × ow_I => ox_e K S V z ((r).1) (some (.int ((r).2.1))) ((r).2.2)) hI1 hk
  refine or_nmI hI1 ?_
  refine or_aload_n E rfl dX10_setStep_18 ?_
  refine ot_getC E fl_10_10 dX10_setStep_19 h_x.1 rfl ?_
  refine ot_getI E fl_10_203 dX10_setStep_22 h_x.2.1.1 rfl ?_
  refine or_istore_n E dX10_setStep_25 (by decide) ?_
  refine or_aload_n E rfl dX10_setStep_26 ?_
  refine ot_getC E fl_10_10 dX10_setStep_27 h_x.1 rfl ?_
  refine or_iload_n E rfl dX10_setStep_30 ?_
  refine ot_putI E fl_10_203 fw_6_2 dX10_setStep_31 h_x.2.1.1 rfl ?_
  obtain ⟨I2, hI2⟩ : ∃ y_ : ow_I, y_ = ow_u I1 (x + 1) 2 s := ⟨_, rfl⟩
  replace hk := lt_k (P := fun r : Nat × Int32 × ow_I => ox_e K S V z ((r).1) (some (.int ((r).2.1))) ((r).2.2)) hI2 hk
  refine or_nmI hI2 ?_
  refine or_iload_n E rfl dX10_setStep_34 ?_
  try dsimp only at hk
  exact or_xr E F (fun X' E' F' => or_iret E' F' dX10_setStep_35 (Nat.le_of_ble_eq_true rfl) (Nat.le_of_ble_eq_true rfl) (hk.1 rfl))
def A_setTaste (x : Nat) (b : Int32) (s : Int32) (f : Int32) (I : ow_I) : Nat × Int32 × ow_I :=
  if A_requireBuyer x b I = 0 then if A_requireRange s (nI 0) (nI 4) I = 0 then if A_requireRange f (nI 1) (nI 999) I = 0 then lt (H_remember (x + 103) (x + 1) I) (fun (I1 : ow_I) => lt (ow_u I1 ((x + 1) + 5 + (tn b)) 1 s) (fun (I2 : ow_I) => lt (ow_u I2 ((x + 1) + 5 + (tn b)) 2 f) (fun (I3 : ow_I) => (0, I1 ((x + 1) + 5 + (tn b)) 1, I3)))) else (A_requireRange f (nI 1) (nI 999) I, 0, I) else (A_requireRange s (nI 0) (nI 4) I, 0, I) else (A_requireBuyer x b I, 0, I)
set_option maxRecDepth 100000 in
set_option maxHeartbeats 400000 in
theorem cA_setTaste {Z : Nat → Nat} {S : Nat → Option ow_Sh} {I : ow_I} {V : Nat → Nat → Value} {z : Nat} {x : Nat} {b : Int32} {s : Int32} {f : Int32} (h_x : au_S S x) (hX : au_V x I) : ow_Cx Z yX10_setTaste cX10_setTaste 6 (some .int) 10 3 18 [.ref x, .int b, .int s, .int f] (S, I, V, z) (ox_s S V z ((A_setTaste x b s f I).1) (some (.int ((A_setTaste x b s f I).2.1))) ((A_setTaste x b s f I).2.2)) := by
  refine ow_Cx.off rfl (Nat.le_of_ble_eq_true rfl) (fun X K E G F hk => ?_)
  have E : ow_E X RX10 cX10_setTaste 6 (ow_rm 10 3 18) := E
  refine or_lv [(0, .ref x), (1, .int b), (2, .int s), (3, .int f)] rfl ?_
  try dsimp only [A_setTaste] at hk
  refine or_aload_n E rfl dX10_setTaste_0 ?_
  refine or_iload_n E rfl dX10_setTaste_1 ?_
  refine or_fV1v (cA_requireBuyer (Z := Z)  h_x ) E G F lk_10_127 dX10_setTaste_2 h_x.1 rfl rfl (by decide) (by decide) ⟨(Nat.le_of_ble_eq_true rfl), (Nat.le_of_ble_eq_true rfl)⟩ (Nat.le_of_ble_eq_true rfl) (fun q2 => ?_) (fun q2 => (ite_n (P := fun r : Nat × Int32 × ow_I => ox_e K S V z ((r).1) (some (.int ((r).2.1))) ((r).2.2)) (Nat.pos_iff_ne_zero.mp q2) hk).2 q2)
  replace hk := ite_p (P := fun r : Nat × Int32 × ow_I => ox_e K S V z ((r).1) (some (.int ((r).2.1))) ((r).2.2)) q2 hk
  refine or_iload_n E rfl dX10_setTaste_5 ?_
  refine or_iconst (v := nI 0) E rfl dX10_setTaste_6 ?_
  refine or_iconst (v := nI 4) E rfl dX10_setTaste_7 ?_
  refine or_fT3v (cA_requireRange (Z := Z)   ) E G F lk_10_82 dX10_setTaste_8 (by decide) (by decide) ⟨(Nat.le_of_ble_eq_true rfl), (Nat.le_of_ble_eq_true rfl)⟩ (Nat.le_of_ble_eq_true rfl) (fun q8 => ?_) (fun q8 => (ite_n (P := fun r : Nat × Int32 × ow_I => ox_e K S V z ((r).1) (some (.int ((r).2.1))) ((r).2.2)) (Nat.pos_iff_ne_zero.mp q8) hk).2 q8)
  replace hk := ite_p (P := fun r : Nat × Int32 × ow_I => ox_e K S V z ((r).1) (some (.int ((r).2.1))) ((r).2.2)) q8 hk
  refine or_iload_n E rfl dX10_setTaste_11 ?_
  refine or_iconst (v := nI 1) E rfl dX10_setTaste_12 ?_
  refine or_sipush (v := nI 999) E rfl dX10_setTaste_13 ?_
  refine or_fT3v (cA_requireRange (Z := Z)   ) E G F lk_10_82 dX10_setTaste_16 (by decide) (by decide) ⟨(Nat.le_of_ble_eq_true rfl), (Nat.le_of_ble_eq_true rfl)⟩ (Nat.le_of_ble_eq_true rfl) (fun q16 => ?_) (fun q16 => (ite_n (P := fun r : Nat × Int32 × ow_I => ox_e K S V z ((r).1) (some (.int ((r).2.1))) ((r).2.2)) (Nat.pos_iff_ne_zero.mp q16) hk).2 q16)
  replace hk := ite_p (P := fun r : Nat × Int32 × ow_I => ox_e K S V z ((r).1) (some (.int ((r).2.1))) ((r).2.2)) q16 hk
  refine or_aload_n E rfl dX10_setTaste_19 ?_
  refine ot_getC E fl_10_22 dX10_setTaste_20 h_x.1 rfl ?_
  refine or_aload_n E rfl dX10_setTaste_23 ?_
  refine ot_getC E fl_10_10 dX10_setTaste_24 h_x.1 rfl ?_
  refine or_cV1v (cH_remember  h_x.2.2.2.1 h_x.2.1 (by omega) hX.2.2.2.2.1.1 hX.2.2.2.2.1.2 hX.1.1.1 hX.1.1.2 hX.1.2.1.1 hX.1.2.1.2) E lk_10_97 dX10_setTaste_27 h_x.2.2.2.1.1 rfl rfl (by decide) (by decide) ⟨(Nat.le_of_ble_eq_true rfl), (Nat.le_of_ble_eq_true rfl)⟩ (Nat.le_of_ble_eq_true rfl) ?_
  obtain ⟨I1, hI1⟩ : ∃ y_ : ow_I, y_ = H_remember (x + 103) (x + 1) I := ⟨_, rfl⟩
  replace hk := lt_k (P := fun r : Nat × Int32 × ow_I => ox_e K S V z ((r).1) (some (.int ((r).2.1))) ((r).2.2)) hI1 hk
  refine or_nmI hI1 ?_
  refine or_aload_n E rfl dX10_setTaste_30 ?_
  refine ot_getC E fl_10_10 dX10_setTaste_31 h_x.1 rfl ?_
  refine ot_getC E fl_10_185 dX10_setTaste_34 h_x.2.1.1 rfl ?_
  refine or_iload_n E rfl dX10_setTaste_37 ?_
  refine or_top (nI_tn (by subst hI1; exact (ry_0' q2).1)).symm ?_
  refine ot_aald (j := tn b) E dX10_setTaste_38 h_x.2.1.2.2.1 rfl rfl (by subst hI1; have h9 := (ry_0' q2).2; have h8 := hX.1.1.2; omega) (Nat.le_of_ble_eq_true rfl) ?_
  refine or_astore E dX10_setTaste_39 (by decide) ?_
  refine or_aload E rfl dX10_setTaste_41 ?_
  refine ot_getI E fl_10_206 dX10_setTaste_43 (h_x.2.1.2.2.2.2.2.1 (tn b) (by subst hI1; have h9 := (ry_0' q2).2; have h8 := hX.1.1.2; omega)) rfl ?_
  refine or_istore E dX10_setTaste_46 (by decide) ?_
  refine or_aload E rfl dX10_setTaste_48 ?_
  refine or_iload_n E rfl dX10_setTaste_50 ?_
  refine ot_putI E fl_10_206 fw_2_1 dX10_setTaste_51 (h_x.2.1.2.2.2.2.2.1 (tn b) (by subst hI1; have h9 := (ry_0' q2).2; have h8 := hX.1.1.2; omega)) rfl ?_
  obtain ⟨I2, hI2⟩ : ∃ y_ : ow_I, y_ = ow_u I1 ((x + 1) + 5 + (tn b)) 1 s := ⟨_, rfl⟩
  replace hk := lt_k (P := fun r : Nat × Int32 × ow_I => ox_e K S V z ((r).1) (some (.int ((r).2.1))) ((r).2.2)) hI2 hk
  refine or_nmI hI2 ?_
  refine or_aload E rfl dX10_setTaste_54 ?_
  refine or_iload_n E rfl dX10_setTaste_56 ?_
  refine ot_putI E fl_10_209 fw_2_2 dX10_setTaste_57 (h_x.2.1.2.2.2.2.2.1 (tn b) (by subst hI1; have h9 := (ry_0' q2).2; have h8 := hX.1.1.2; omega)) rfl ?_
  obtain ⟨I3, hI3⟩ : ∃ y_ : ow_I, y_ = ow_u I2 ((x + 1) + 5 + (tn b)) 2 f := ⟨_, rfl⟩
  replace hk := lt_k (P := fun r : Nat × Int32 × ow_I => ox_e K S V z ((r).1) (some (.int ((r).2.1))) ((r).2.2)) hI3 hk
  refine or_nmI hI3 ?_
  refine or_iload E rfl dX10_setTaste_60 ?_
  try dsimp only at hk
  exact or_xr E F (fun X' E' F' => or_iret E' F' dX10_setTaste_62 (Nat.le_of_ble_eq_true rfl) (Nat.le_of_ble_eq_true rfl) (hk.1 rfl))
