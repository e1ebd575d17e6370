theorem fl_10_16 : ow_fl RX10 16 10 1 := ⟨_, rfl, by decide, ow_T_in 554 (by decide +kernel) (by decide +kernel), ow_ok10⟩
theorem fl_10_26 : ow_fl RX10 26 10 3 := ⟨_, rfl, by decide, ow_T_in 556 (by decide +kernel) (by decide +kernel), ow_ok10⟩
theorem fl_10_30 : ow_fl RX10 30 10 4 := ⟨_, rfl, by decide, ow_T_in 557 (by decide +kernel) (by decide +kernel), ow_ok10⟩
theorem fl_10_212 : ow_fl RX10 212 4 2 := ⟨_, rfl, by decide, ow_T_in 242 (by decide +kernel) (by decide +kernel), ow_ok4⟩
theorem fl_10_259 : ow_fl RX10 259 6 11 := ⟨_, rfl, by decide, ow_T_in 184 (by decide +kernel) (by decide +kernel), ow_ok6⟩
theorem fl_10_274 : ow_fl RX10 274 1 0 := ⟨_, rfl, by decide, ow_T_in 110 (by decide +kernel) (by decide +kernel), ow_ok1⟩
theorem fl_10_325 : ow_fl RX10 325 6 6 := ⟨_, rfl, by decide, ow_T_in 174 (by decide +kernel) (by decide +kernel), ow_ok6⟩
theorem lk_10_101 : ow_lv RX10 101 yX6_copyFrom cX6_copyFrom 3 none 1 := ⟨ow_T_in 1132 (by decide +kernel) (by decide +kernel), ow_T_in 1114 (by decide +kernel) (by decide +kernel), ow_T_in 1115 (by decide +kernel) (by decide +kernel), ow_T_in 2 (by decide +kernel) (by decide +kernel), ow_T_in 1116 (by decide +kernel) (by decide +kernel), ⟨by decide +kernel, by decide +kernel, by decide +kernel⟩⟩
theorem lk_10_220 : ow_lv RX10 220 yX4_takeBack cX4_takeBack 2 none 1 := ⟨ow_T_in 1380 (by decide +kernel) (by decide +kernel), ow_T_in 1381 (by decide +kernel) (by decide +kernel), ow_T_in 1382 (by decide +kernel) (by decide +kernel), ow_T_in 6 (by decide +kernel) (by decide +kernel), ow_T_in 1383 (by decide +kernel) (by decide +kernel), ⟨by decide +kernel, by decide +kernel, by decide +kernel⟩⟩
theorem lk_10_283 : ow_lv RX10 283 yX1_lengthAtRank cX1_lengthAtRank 6 (some .int) 1 := ⟨ow_T_in 1439 (by decide +kernel) (by decide +kernel), ow_T_in 1440 (by decide +kernel) (by decide +kernel), ow_T_in 1441 (by decide +kernel) (by decide +kernel), ow_T_in 5 (by decide +kernel) (by decide +kernel), ow_T_in 1442 (by decide +kernel) (by decide +kernel), ⟨by decide +kernel, by decide +kernel, by decide +kernel⟩⟩
theorem lk_10_308 : ow_lv RX10 308 yX2_valueOf cX2_valueOf 2 (some .double) 1 := ⟨ow_T_in 1531 (by decide +kernel) (by decide +kernel), ow_T_in 681 (by decide +kernel) (by decide +kernel), ow_T_in 682 (by decide +kernel) (by decide +kernel), ow_T_in 4 (by decide +kernel) (by decide +kernel), ow_T_in 683 (by decide +kernel) (by decide +kernel), ⟨by decide +kernel, by decide +kernel, by decide +kernel⟩⟩
theorem lk_10_312 : ow_lv RX10 312 yX6_withFee cX6_withFee 2 (some .int) 1 := ⟨ow_T_in 1546 (by decide +kernel) (by decide +kernel), ow_T_in 677 (by decide +kernel) (by decide +kernel), ow_T_in 678 (by decide +kernel) (by decide +kernel), ow_T_in 2 (by decide +kernel) (by decide +kernel), ow_T_in 679 (by decide +kernel) (by decide +kernel), ⟨by decide +kernel, by decide +kernel, by decide +kernel⟩⟩
theorem lk_10_318 : ow_lv RX10 318 yX6_keenest cX6_keenest 4 (some .int) 1 := ⟨ow_T_in 1554 (by decide +kernel) (by decide +kernel), ow_T_in 1555 (by decide +kernel) (by decide +kernel), ow_T_in 1556 (by decide +kernel) (by decide +kernel), ow_T_in 2 (by decide +kernel) (by decide +kernel), ow_T_in 1557 (by decide +kernel) (by decide +kernel), ⟨by decide +kernel, by decide +kernel, by decide +kernel⟩⟩
theorem lk_10_322 : ow_lv RX10 322 yX10_foresee cX10_foresee 3 none 2 := ⟨ow_T_in 1572 (by decide +kernel) (by decide +kernel), ow_T_in 1574 (by decide +kernel) (by decide +kernel), ow_T_sel 34 (by decide +kernel) (by decide +kernel), ow_T_in 1 (by decide +kernel) (by decide +kernel), ow_T_in 1575 (by decide +kernel) (by decide +kernel), ⟨by decide +kernel, by decide +kernel, by decide +kernel⟩⟩
theorem lk_10_328 : ow_lv RX10 328 yX6_coinsInPurses cX6_coinsInPurses 3 (some .int) 0 := ⟨ow_T_in 691 (by decide +kernel) (by decide +kernel), ow_T_in 692 (by decide +kernel) (by decide +kernel), ow_T_in 693 (by decide +kernel) (by decide +kernel), ow_T_in 2 (by decide +kernel) (by decide +kernel), ow_T_in 694 (by decide +kernel) (by decide +kernel), ⟨by decide +kernel, by decide +kernel, by decide +kernel⟩⟩
def A_undo (x : Nat) (I : ow_I) : Nat × Int32 × ow_I :=
  if I (x + 103) 2 = 0 then (4, 0, I) else lt (H_takeBack (x + 103) (x + 1) I) (fun (I1 : ow_I) => (0, I1 (x + 103) 2, I1))
set_option maxRecDepth 100000 in
set_option maxHeartbeats 400000 in
theorem cA_undo {Z : Nat → Nat} {S : Nat → Option ow_Sh} {I : ow_I} {V : Nat → Nat → Value} {z : Nat} {x : Nat} (h_x : au_S S x) (hX : au_V x I) : ow_Cx Z yX10_undo cX10_undo 1 (some .int) 9 1 6 [.ref x] (S, I, V, z) (ox_s S V z ((A_undo x I).1) (some (.int ((A_undo x I).2.1))) ((A_undo x I).2.2)) := by
  refine ow_Cx.off rfl (Nat.le_of_ble_eq_true rfl) (fun X K E G F hk => ?_)
  have E : ow_E X RX10 cX10_undo 1 (ow_rm 9 1 6) := E
  refine or_lv [(0, .ref x)] rfl ?_
  try dsimp only [A_undo] at hk
  refine or_aload_n E rfl dX10_undo_0 ?_
  refine ot_getC E fl_10_22 dX10_undo_1 h_x.1 rfl ?_
  refine ot_getI E fl_10_212 dX10_undo_4 h_x.2.2.2.1.1 rfl ?_
  refine or_if_ne 20 E dX10_undo_7 rfl (fun q7 => ?_) (fun q7 => ?_)
  · replace hk := ite_n (P := fun r : Nat × Int32 × ow_I => ox_e K S V z ((r).1) (some (.int ((r).2.1))) ((r).2.2)) q7 hk
    refine or_aload_n E rfl dX10_undo_20 ?_
    refine ot_getC E fl_10_22 dX10_undo_21 h_x.1 rfl ?_
    refine or_aload_n E rfl dX10_undo_24 ?_
    refine ot_getC E fl_10_10 dX10_undo_25 h_x.1 rfl ?_
    refine or_cV1v (cH_takeBack  h_x.2.2.2.1 h_x.2.1 (by omega) hX.2.2.2.2.1.1 hX.2.2.2.2.1.2 (au_3 hX)) E lk_10_220 dX10_undo_28 h_x.2.2.2.1.1 rfl rfl (by decide) (by decide) ⟨(Nat.le_of_ble_eq_true rfl), (Nat.le_of_ble_eq_true rfl)⟩ (Nat.le_of_ble_eq_true rfl) ?_
    obtain ⟨I1, hI1⟩ : ∃ y_ : ow_I, y_ = H_takeBack (x + 103) (x + 1) I := ⟨_, rfl⟩
    replace hk := lt_k (P := fun r : Nat × Int32 × ow_I => ox_e K S V z ((r).1) (some (.int ((r).2.1))) ((r).2.2)) hI1 hk
    refine or_nmI hI1 ?_
    refine or_aload_n E rfl dX10_undo_31 ?_
    refine ot_getC E fl_10_22 dX10_undo_32 h_x.1 rfl ?_
    refine ot_getI E fl_10_212 dX10_undo_35 h_x.2.2.2.1.1 rfl ?_
    try dsimp only at hk
    exact or_xr E F (fun X' E' F' => or_iret E' F' dX10_undo_38 (Nat.le_of_ble_eq_true rfl) (Nat.le_of_ble_eq_true rfl) (hk.1 rfl))
  · replace hk := ite_p (P := fun r : Nat × Int32 × ow_I => ox_e K S V z ((r).1) (some (.int ((r).2.1))) ((r).2.2)) q7 hk
    try dsimp only at hk
    exact or_throwN E G F (og_12 G 11 rfl) dX10_undo_10 dX10_undo_13 dX10_undo_14 dX10_undo_16 dX10_undo_19 (by decide) (Nat.le_of_ble_eq_true rfl) (Nat.le_of_ble_eq_true rfl) (Nat.le_of_ble_eq_true rfl) (hk.2 (by decide))
def A_saveSnapshot (x : Nat) (s : Int32) (I : ow_I) : Nat × ow_I :=
  if A_requireRange s (nI 0) (nI 1) I = 0 then lt (K_copyFrom (x + 564 + 51 * (tn s)) (x + 1) I) (fun (I1 : ow_I) => lt (ow_u I1 (x + 514) (tn s) (((nI 1) &&& 1))) (fun (I2 : ow_I) => (0, I2))) else (A_requireRange s (nI 0) (nI 1) I, I)
set_option maxRecDepth 100000 in
set_option maxHeartbeats 400000 in
theorem cA_saveSnapshot {Z : Nat → Nat} {S : Nat → Option ow_Sh} {I : ow_I} {V : Nat → Nat → Value} {z : Nat} {x : Nat} {s : Int32} (h_x : au_S S x) (hX : au_V x I) : ow_Cx Z yX10_saveSnapshot cX10_saveSnapshot 2 none 10 1 6 [.ref x, .int s] (S, I, V, z) (ox_s S V z ((A_saveSnapshot x s I).1) none ((A_saveSnapshot x s I).2)) := by
  refine ow_Cx.off rfl (Nat.le_of_ble_eq_true rfl) (fun X K E G F hk => ?_)
  have E : ow_E X RX10 cX10_saveSnapshot 2 (ow_rm 10 1 6) := E
  refine or_lv [(0, .ref x), (1, .int s)] rfl ?_
  try dsimp only [A_saveSnapshot] at hk
  refine or_iload_n E rfl dX10_saveSnapshot_0 ?_
  refine or_iconst (v := nI 0) E rfl dX10_saveSnapshot_1 ?_
  refine or_iconst (v := nI 1) E rfl dX10_saveSnapshot_2 ?_
  refine or_fT3v (cA_requireRange (Z := Z)   ) E G F lk_10_82 dX10_saveSnapshot_3 (by decide) (by decide) ⟨(Nat.le_of_ble_eq_true rfl), (Nat.le_of_ble_eq_true rfl)⟩ (Nat.le_of_ble_eq_true rfl) (fun q3 => ?_) (fun q3 => (ite_n (P := fun r : Nat × ow_I => ox_e K S V z ((r).1) none ((r).2)) (Nat.pos_iff_ne_zero.mp q3) hk).2 q3)
  replace hk := ite_p (P := fun r : Nat × ow_I => ox_e K S V z ((r).1) none ((r).2)) q3 hk
  refine or_aload_n E rfl dX10_saveSnapshot_6 ?_
  refine ot_getC E fl_10_26 dX10_saveSnapshot_7 h_x.1 rfl ?_
  refine or_iload_n E rfl dX10_saveSnapshot_10 ?_
  refine or_top (nI_tn (rg_0 (by decide) q3)).symm ?_
  refine ot_aald (j := tn s) E dX10_saveSnapshot_11 h_x.2.2.2.2.1 rfl rfl (by have h9 := rg_2 (by decide) (by decide) q3; omega) (Nat.le_of_ble_eq_true rfl) ?_
  refine or_aload_n E rfl dX10_saveSnapshot_12 ?_
  refine ot_getC E fl_10_10 dX10_saveSnapshot_13 h_x.1 rfl ?_
  refine or_cV1v (cK_copyFrom  (h_x.2.2.2.2.2.2.2.2 (tn s) (by have h9 := rg_2 (by decide) (by decide) q3; omega)) h_x.2.1 (by omega) hX.1.1.1 hX.1.1.2 hX.1.2.1.1 hX.1.2.1.2) E lk_10_101 dX10_saveSnapshot_16 (h_x.2.2.2.2.2.2.2.2 (tn s) (by have h9 := rg_2 (by decide) (by decide) q3; omega)).1 rfl rfl (by decide) (by decide) ⟨(Nat.le_of_ble_eq_true rfl), (Nat.le_of_ble_eq_true rfl)⟩ (Nat.le_of_ble_eq_true rfl) ?_
  obtain ⟨I1, hI1⟩ : ∃ y_ : ow_I, y_ = K_copyFrom (x + 564 + 51 * (tn s)) (x + 1) I := ⟨_, rfl⟩
  replace hk := lt_k (P := fun r : Nat × ow_I => ox_e K S V z ((r).1) none ((r).2)) hI1 hk
  refine or_nmI hI1 ?_
  refine or_aload_n E rfl dX10_saveSnapshot_19 ?_
  refine ot_getC E fl_10_30 dX10_saveSnapshot_20 h_x.1 rfl ?_
  refine or_iload_n E rfl dX10_saveSnapshot_23 ?_
  refine or_top (nI_tn (by subst hI1; exact (rg_0 (by decide) q3))).symm ?_
  refine or_iconst (v := nI 1) E rfl dX10_saveSnapshot_24 ?_
  refine ot_zast (j := tn s) E dX10_saveSnapshot_25 h_x.2.2.2.2.2.1 rfl rfl (by subst hI1; have h9 := rg_2 (by decide) (by decide) q3; omega) (Nat.le_of_ble_eq_true rfl) ?_
  obtain ⟨I2, hI2⟩ : ∃ y_ : ow_I, y_ = ow_u I1 (x + 514) (tn s) (((nI 1) &&& 1)) := ⟨_, rfl⟩
  replace hk := lt_k (P := fun r : Nat × ow_I => ox_e K S V z ((r).1) none ((r).2)) hI2 hk
  refine or_nmI hI2 ?_
  try dsimp only at hk
  exact or_xr E F (fun X' E' F' => or_vret E' F' dX10_saveSnapshot_26 (Nat.le_of_ble_eq_true rfl) (Nat.le_of_ble_eq_true rfl) (hk.1 rfl))
def A_restoreSnapshot (x : Nat) (s : Int32) (I : ow_I) : Nat × Int32 × ow_I :=
  if A_requireRange s (nI 0) (nI 1) I = 0 then if I (x + 514) (tn s) = 0 then (4, 0, I) else lt (H_remember (x + 103) (x + 1) I) (fun (I1 : ow_I) => lt (K_copyFrom (x + 1) (x + 564 + 51 * (tn s)) I1) (fun (I2 : ow_I) => (0, I2 ((x + 1) + 1) 2, I2))) else (A_requireRange s (nI 0) (nI 1) I, 0, I)
set_option maxRecDepth 100000 in
set_option maxHeartbeats 400000 in
theorem cA_restoreSnapshot {Z : Nat → Nat} {S : Nat → Option ow_Sh} {I : ow_I} {V : Nat → Nat → Value} {z : Nat} {x : Nat} {s : Int32} (h_x : au_S S x) (hX : au_V x I) : ow_Cx Z yX10_restoreSnapshot cX10_restoreSnapshot 2 (some .int) 10 2 12 [.ref x, .int s] (S, I, V, z) (ox_s S V z ((A_restoreSnapshot x s I).1) (some (.int ((A_restoreSnapshot x s I).2.1))) ((A_restoreSnapshot x s I).2.2)) := by
  refine ow_Cx.off rfl (Nat.le_of_ble_eq_true rfl) (fun X K E G F hk => ?_)
  have E : ow_E X RX10 cX10_restoreSnapshot 2 (ow_rm 10 2 12) := E
  refine or_lv [(0, .ref x), (1, .int s)] rfl ?_
  try dsimp only [A_restoreSnapshot] at hk
  refine or_iload_n E rfl dX10_restoreSnapshot_0 ?_
  refine or_iconst (v := nI 0) E rfl dX10_restoreSnapshot_1 ?_
  refine or_iconst (v := nI 1) E rfl dX10_restoreSnapshot_2 ?_
  refine or_fT3v (cA_requireRange (Z := Z)   ) E G F lk_10_82 dX10_restoreSnapshot_3 (by decide) (by decide) ⟨(Nat.le_of_ble_eq_true rfl), (Nat.le_of_ble_eq_true rfl)⟩ (Nat.le_of_ble_eq_true rfl) (fun q3 => ?_) (fun q3 => (ite_n (P := fun r : Nat × Int32 × ow_I => ox_e K S V z ((r).1) (some (.int ((r).2.1))) ((r).2.2)) (Nat.pos_iff_ne_zero.mp q3) hk).2 q3)
  replace hk := ite_p (P := fun r : Nat × Int32 × ow_I => ox_e K S V z ((r).1) (some (.int ((r).2.1))) ((r).2.2)) q3 hk
  refine or_aload_n E rfl dX10_restoreSnapshot_6 ?_
  refine ot_getC E fl_10_30 dX10_restoreSnapshot_7 h_x.1 rfl ?_
  refine or_iload_n E rfl dX10_restoreSnapshot_10 ?_
  refine or_top (nI_tn (rg_0 (by decide) q3)).symm ?_
  refine ot_zald (j := tn s) E dX10_restoreSnapshot_11 h_x.2.2.2.2.2.1 rfl rfl (by have h9 := rg_2 (by decide) (by decide) q3; omega) (Nat.le_of_ble_eq_true rfl) ?_
  refine or_if_ne 25 E dX10_restoreSnapshot_12 rfl (fun q12 => ?_) (fun q12 => ?_)
  · replace hk := ite_n (P := fun r : Nat × Int32 × ow_I => ox_e K S V z ((r).1) (some (.int ((r).2.1))) ((r).2.2)) q12 hk
    refine or_aload_n E rfl dX10_restoreSnapshot_25 ?_
    refine ot_getC E fl_10_22 dX10_restoreSnapshot_26 h_x.1 rfl ?_
    refine or_aload_n E rfl dX10_restoreSnapshot_29 ?_
    refine ot_getC E fl_10_10 dX10_restoreSnapshot_30 h_x.1 rfl ?_
    refine or_cV1v (cH_remember  h_x.2.2.2.1 h_x.2.1 (by omega) hX.2.2.2.2.1.1 hX.2.2.2.2.1.2 hX.1.1.1 hX.1.1.2 hX.1.2.1.1 hX.1.2.1.2) E lk_10_97 dX10_restoreSnapshot_33 h_x.2.2.2.1.1 rfl rfl (by decide) (by decide) ⟨(Nat.le_of_ble_eq_true rfl), (Nat.le_of_ble_eq_true rfl)⟩ (Nat.le_of_ble_eq_true rfl) ?_
    obtain ⟨I1, hI1⟩ : ∃ y_ : ow_I, y_ = H_remember (x + 103) (x + 1) I := ⟨_, rfl⟩
    replace hk := lt_k (P := fun r : Nat × Int32 × ow_I => ox_e K S V z ((r).1) (some (.int ((r).2.1))) ((r).2.2)) hI1 hk
    refine or_nmI hI1 ?_
    refine or_aload_n E rfl dX10_restoreSnapshot_36 ?_
    refine ot_getC E fl_10_10 dX10_restoreSnapshot_37 h_x.1 rfl ?_
    refine or_aload_n E rfl dX10_restoreSnapshot_40 ?_
    refine ot_getC E fl_10_26 dX10_restoreSnapshot_41 h_x.1 rfl ?_
    refine or_iload_n E rfl dX10_restoreSnapshot_44 ?_
    refine or_top (nI_tn (by subst hI1; exact (rg_0 (by decide) q3))).symm ?_
    refine ot_aald (j := tn s) E dX10_restoreSnapshot_45 h_x.2.2.2.2.1 rfl rfl (by subst hI1; have h9 := rg_2 (by decide) (by decide) q3; omega) (Nat.le_of_ble_eq_true rfl) ?_
    refine or_cV1v (cK_copyFrom  h_x.2.1 (h_x.2.2.2.2.2.2.2.2 (tn s) (by subst hI1; have h9 := rg_2 (by decide) (by decide) q3; omega)) (by subst hI1; have h9 := rg_2 (by decide) (by decide) q3; omega) (by subst hI1; rw [rr_rem hX (by omega)]; exact (hX.2.2.2.1 (tn s) (by have h9 := rg_2 (by decide) (by decide) q3; omega)).1.1) (by subst hI1; rw [rr_rem hX (by omega)]; exact (hX.2.2.2.1 (tn s) (by have h9 := rg_2 (by decide) (by decide) q3; omega)).1.2) (by subst hI1; rw [rr_rem hX (by omega)]; exact (hX.2.2.2.1 (tn s) (by have h9 := rg_2 (by decide) (by decide) q3; omega)).2.1.1) (by subst hI1; rw [rr_rem hX (by omega)]; exact (hX.2.2.2.1 (tn s) (by have h9 := rg_2 (by decide) (by decide) q3; omega)).2.1.2)) E lk_10_101 dX10_restoreSnapshot_46 h_x.2.1.1 rfl rfl (by decide) (by decide) ⟨(Nat.le_of_ble_eq_true rfl), (Nat.le_of_ble_eq_true rfl)⟩ (Nat.le_of_ble_eq_true rfl) ?_
    obtain ⟨I2, hI2⟩ : ∃ y_ : ow_I, y_ = K_copyFrom (x + 1) (x + 564 + 51 * (tn s)) I1 := ⟨_, rfl⟩
    replace hk := lt_k (P := fun r : Nat × Int32 × ow_I => ox_e K S V z ((r).1) (some (.int ((r).2.1))) ((r).2.2)) hI2 hk
    refine or_nmI hI2 ?_
    refine or_aload_n E rfl dX10_restoreSnapshot_49 ?_
    refine ot_getC E fl_10_10 dX10_restoreSnapshot_50 h_x.1 rfl ?_
    refine ot_getC E fl_10_225 dX10_restoreSnapshot_53 h_x.2.1.1 rfl ?_
    refine ot_getI E fl_10_229 dX10_restoreSnapshot_56 h_x.2.1.2.1 rfl ?_
    try dsimp only at hk
    exact or_xr E F (fun X' E' F' => or_iret E' F' dX10_restoreSnapshot_59 (Nat.le_of_ble_eq_true rfl) (Nat.le_of_ble_eq_true rfl) (hk.1 rfl))
  · replace hk := ite_p (P := fun r : Nat × Int32 × ow_I => ox_e K S V z ((r).1) (some (.int ((r).2.1))) ((r).2.2)) q12 hk
    try dsimp only at hk
    exact or_throwN E G F (og_12 G 12 rfl) dX10_restoreSnapshot_15 dX10_restoreSnapshot_18 dX10_restoreSnapshot_19 dX10_restoreSnapshot_21 dX10_restoreSnapshot_24 (by decide) (Nat.le_of_ble_eq_true rfl) (Nat.le_of_ble_eq_true rfl) (Nat.le_of_ble_eq_true rfl) (hk.2 (by decide))
def A_queuedBarrel (x : Nat) (n : Int32) (I : ow_I) : Int32 :=
  if n < 0 then (-1) else if n < I (x + 1) 12 then I ((x + 1) + 4) (tn n) else (-1)
set_option maxRecDepth 100000 in
set_option maxHeartbeats 400000 in
theorem cA_queuedBarrel {Z : Nat → Nat} {S : Nat → Option ow_Sh} {I : ow_I} {V : Nat → Nat → Value} {z : Nat} {x : Nat} {n : Int32} (h_x : au_S S x) (hX : au_V x I) : ow_Cx Z yX10_queuedBarrel cX10_queuedBarrel 2 (some .int) 0 0 0 [.ref x, .int n] (S, I, V, z) (ox_s S V z 0 (some (.int (A_queuedBarrel x n I))) I) := by
  refine ow_Cx.off rfl (Nat.le_of_ble_eq_true rfl) (fun X K E G F hk => ?_)
  have E : ow_E X RX10 cX10_queuedBarrel 2 (ow_rm 0 0 0) := E
  refine or_lv [(0, .ref x), (1, .int n)] rfl ?_
  try dsimp only [A_queuedBarrel] at hk
  refine or_iload_n E rfl dX10_queuedBarrel_0 ?_
  refine or_if_lt 15 E dX10_queuedBarrel_1 rfl (fun q1 => ?_) (fun q1 => ?_)
  · replace hk := ite_p (P := fun r : Int32 => ox_e K S V z 0 (some (.int (r))) I) q1 hk
    refine or_iconst (v := -1) E rfl dX10_queuedBarrel_15 ?_
    exact or_xr E F (fun X' E' F' => or_iret E' F' dX10_queuedBarrel_16 (Nat.le_of_ble_eq_true rfl) (Nat.le_of_ble_eq_true rfl) (hk.1 rfl))
  · replace hk := ite_n (P := fun r : Int32 => ox_e K S V z 0 (some (.int (r))) I) q1 hk
    refine or_iload_n E rfl dX10_queuedBarrel_4 ?_
    refine or_aload_n E rfl dX10_queuedBarrel_5 ?_
    refine ot_getC E fl_10_10 dX10_queuedBarrel_6 h_x.1 rfl ?_
    refine ot_getI E fl_10_178 dX10_queuedBarrel_9 h_x.2.1.1 rfl ?_
    refine or_icmp_lt 17 E dX10_queuedBarrel_12 rfl (fun q12 => ?_) (fun q12 => ?_)
    · replace hk := ite_p (P := fun r : Int32 => ox_e K S V z 0 (some (.int (r))) I) q12 hk
      refine or_aload_n E rfl dX10_queuedBarrel_17 ?_
      refine ot_getC E fl_10_10 dX10_queuedBarrel_18 h_x.1 rfl ?_
      refine ot_getC E fl_10_259 dX10_queuedBarrel_21 h_x.2.1.1 rfl ?_
      refine or_iload_n E rfl dX10_queuedBarrel_24 ?_
      refine or_top (nI_tn (Int32.not_lt.mp q1)).symm ?_
      refine ot_iald (j := tn n) E dX10_queuedBarrel_25 h_x.2.1.2.2.2.2.1 rfl rfl (by have h9 := (lt_tn q12 (Int32.not_lt.mp q1)).2; have h8 := hX.1.2.2.1.2; omega) (Nat.le_of_ble_eq_true rfl) ?_
      exact or_xr E F (fun X' E' F' => or_iret E' F' dX10_queuedBarrel_26 (Nat.le_of_ble_eq_true rfl) (Nat.le_of_ble_eq_true rfl) (hk.1 rfl))
    · replace hk := ite_n (P := fun r : Int32 => ox_e K S V z 0 (some (.int (r))) I) q12 hk
      refine or_iconst (v := -1) E rfl dX10_queuedBarrel_15 ?_
      exact or_xr E F (fun X' E' F' => or_iret E' F' dX10_queuedBarrel_16 (Nat.le_of_ble_eq_true rfl) (Nat.le_of_ble_eq_true rfl) (hk.1 rfl))
def A_length (x : Nat) (b : Int32) (n : Int32) (I : ow_I) : Nat × Int32 :=
  if A_barrelAt x b I = 0 then if n < 0 then (3, 0) else if n < I (x + 1 + 11 + 2 * (tn b)) 1 then (0, I ((x + 1 + 11 + 2 * (tn b)) + 1) (tn n)) else (3, 0) else (A_barrelAt x b I, 0)
set_option maxRecDepth 100000 in
set_option maxHeartbeats 400000 in
theorem cA_length {Z : Nat → Nat} {S : Nat → Option ow_Sh} {I : ow_I} {V : Nat → Nat → Value} {z : Nat} {x : Nat} {b : Int32} {n : Int32} (h_x : au_S S x) (hX : au_V x I) : ow_Cx Z yX10_length cX10_length 4 (some .int) 11 2 12 [.ref x, .int b, .int n] (S, I, V, z) (ox_s S V z ((A_length x b n I).1) (some (.int ((A_length x b n I).2))) I) := by
  refine ow_Cx.off rfl (Nat.le_of_ble_eq_true rfl) (fun X K E G F hk => ?_)
  have E : ow_E X RX10 cX10_length 4 (ow_rm 11 2 12) := E
  refine or_lv [(0, .ref x), (1, .int b), (2, .int n)] rfl ?_
  have hV := hX.1
  try dsimp only [A_length] at hk
  refine or_aload_n E rfl dX10_length_0 ?_
  refine or_iload_n E rfl dX10_length_1 ?_
  refine or_fV1r (cA_barrelAt (Z := Z)  h_x hX.1) E G F lk_10_262 dX10_length_2 h_x.1 rfl rfl (by decide) (by decide) ⟨(Nat.le_of_ble_eq_true rfl), (Nat.le_of_ble_eq_true rfl)⟩ (Nat.le_of_ble_eq_true rfl) (fun q2 => ?_) (fun q2 => (ite_n (P := fun r : Nat × Int32 => ox_e K S V z ((r).1) (some (.int ((r).2))) I) (Nat.pos_iff_ne_zero.mp q2) hk).2 q2)
  replace hk := ite_p (P := fun r : Nat × Int32 => ox_e K S V z ((r).1) (some (.int ((r).2))) I) q2 hk
  refine or_astore_n E dX10_length_5 (by decide) ?_
  refine or_iload_n E rfl dX10_length_6 ?_
  refine or_if_lt 18 E dX10_length_7 rfl (fun q7 => ?_) (fun q7 => ?_)
  · replace hk := ite_p (P := fun r : Nat × Int32 => ox_e K S V z ((r).1) (some (.int ((r).2))) I) q7 hk
    try dsimp only at hk
    exact or_throwSW E G F tw_10_269_273 (by decide) (og_12 G 13 rfl) dX10_length_18 dX10_length_21 dX10_length_22 dX10_length_25 dX10_length_28 (by decide) (Nat.le_of_ble_eq_true rfl) (Nat.le_of_ble_eq_true rfl) (Nat.le_of_ble_eq_true rfl) (hk.2 (by decide))
  · replace hk := ite_n (P := fun r : Nat × Int32 => ox_e K S V z ((r).1) (some (.int ((r).2))) I) q7 hk
    refine or_iload_n E rfl dX10_length_10 ?_
    refine or_aload_n E rfl dX10_length_11 ?_
    refine ot_getI E fl_10_266 dX10_length_12 (mk_br2 h_x.2.1 (ab_2 hV q2)).1 rfl ?_
    refine or_icmp_lt 29 E dX10_length_15 rfl (fun q15 => ?_) (fun q15 => ?_)
    · replace hk := ite_p (P := fun r : Nat × Int32 => ox_e K S V z ((r).1) (some (.int ((r).2))) I) q15 hk
      refine or_aload_n E rfl dX10_length_29 ?_
      refine ot_getC E fl_10_274 dX10_length_30 (mk_br2 h_x.2.1 (ab_2 hV q2)).1 rfl ?_
      refine or_iload_n E rfl dX10_length_33 ?_
      refine or_top (nI_tn (Int32.not_lt.mp q7)).symm ?_
      refine ot_iald (j := tn n) E dX10_length_34 (mk_br2 h_x.2.1 (ab_2 hV q2)).2 rfl rfl (by have h9 := (lt_tn q15 (Int32.not_lt.mp q7)).2; have h8 := (hX.1.2.2.2.2.2.2 (tn b) (ab_2 hX.1 q2)).2; omega) (Nat.le_of_ble_eq_true rfl) ?_
      try dsimp only at hk
      exact or_xr E F (fun X' E' F' => or_iret E' F' dX10_length_35 (Nat.le_of_ble_eq_true rfl) (Nat.le_of_ble_eq_true rfl) (hk.1 rfl))
    · replace hk := ite_n (P := fun r : Nat × Int32 => ox_e K S V z ((r).1) (some (.int ((r).2))) I) q15 hk
      try dsimp only at hk
      exact or_throwSW E G F tw_10_269_273 (by decide) (og_12 G 13 rfl) dX10_length_18 dX10_length_21 dX10_length_22 dX10_length_25 dX10_length_28 (by decide) (Nat.le_of_ble_eq_true rfl) (Nat.le_of_ble_eq_true rfl) (Nat.le_of_ble_eq_true rfl) (hk.2 (by decide))
def A_middleLength (x : Nat) (b : Int32) (I : ow_I) : Nat × Int32 :=
  if A_barrelAt x b I = 0 then if A_barrelAt x b I = 0 then (0, B_lengthAtRank (x + 1 + 11 + 2 * (tn b)) ((I (x + 1 + 11 + 2 * (tn b)) 1 - (nI 1)) / (nI 2)) I) else (A_barrelAt x b I, 0) else (A_barrelAt x b I, 0)
set_option maxRecDepth 100000 in
set_option maxHeartbeats 400000 in
theorem cA_middleLength {Z : Nat → Nat} {S : Nat → Option ow_Sh} {I : ow_I} {V : Nat → Nat → Value} {z : Nat} {x : Nat} {b : Int32} (h_x : au_S S x) (hX : au_V x I) : ow_Cx Z yX10_middleLength cX10_middleLength 2 (some .int) 11 2 12 [.ref x, .int b] (S, I, V, z) (ox_s S V z ((A_middleLength x b I).1) (some (.int ((A_middleLength x b I).2))) I) := by
  refine ow_Cx.off rfl (Nat.le_of_ble_eq_true rfl) (fun X K E G F hk => ?_)
  have E : ow_E X RX10 cX10_middleLength 2 (ow_rm 11 2 12) := E
  refine or_lv [(0, .ref x), (1, .int b)] rfl ?_
  have hV := hX.1
  try dsimp only [A_middleLength] at hk
  refine or_aload_n E rfl dX10_middleLength_0 ?_
  refine or_iload_n E rfl dX10_middleLength_1 ?_
  refine or_fV1r (cA_barrelAt (Z := Z)  h_x hX.1) E G F lk_10_262 dX10_middleLength_2 h_x.1 rfl rfl (by decide) (by decide) ⟨(Nat.le_of_ble_eq_true rfl), (Nat.le_of_ble_eq_true rfl)⟩ (Nat.le_of_ble_eq_true rfl) (fun q2 => ?_) (fun q2 => (ite_n (P := fun r : Nat × Int32 => ox_e K S V z ((r).1) (some (.int ((r).2))) I) (Nat.pos_iff_ne_zero.mp q2) hk).2 q2)
  replace hk := ite_p (P := fun r : Nat × Int32 => ox_e K S V z ((r).1) (some (.int ((r).2))) I) q2 hk
  refine or_aload_n E rfl dX10_middleLength_5 ?_
  refine or_iload_n E rfl dX10_middleLength_6 ?_
  refine or_fV1r (cA_barrelAt (Z := Z)  h_x hX.1) E G F lk_10_262 dX10_middleLength_7 h_x.1 rfl rfl (by decide) (by decide) ⟨(Nat.le_of_ble_eq_true rfl), (Nat.le_of_ble_eq_true rfl)⟩ (Nat.le_of_ble_eq_true rfl) (fun q7 => ?_) (fun q7 => (ite_n (P := fun r : Nat × Int32 => ox_e K S V z ((r).1) (some (.int ((r).2))) I) (Nat.pos_iff_ne_zero.mp q7) hk).2 q7)
  replace hk := ite_p (P := fun r : Nat × Int32 => ox_e K S V z ((r).1) (some (.int ((r).2))) I) q7 hk
  refine ot_getI E fl_10_266 dX10_middleLength_10 (mk_br2 h_x.2.1 (ab_2 hV q7)).1 rfl ?_
  refine or_iconst (v := nI 1) E rfl dX10_middleLength_13 ?_
  refine or_isub E dX10_middleLength_14 ?_
  refine or_iconst (v := nI 2) E rfl dX10_middleLength_15 ?_
  refine or_idiv E (by decide) dX10_middleLength_16 ?_
  refine or_cV1r (cB_lengthAtRank  (mk_br2 h_x.2.1 (ab_2 hV q2)) (hX.1.2.2.2.2.2.2 (tn b) (ab_2 hX.1 q2)).1 (hX.1.2.2.2.2.2.2 (tn b) (ab_2 hX.1 q2)).2) E lk_10_283 dX10_middleLength_17 (mk_br2 h_x.2.1 (ab_2 hV q2)).1 rfl rfl (by decide) (by decide) ⟨(Nat.le_of_ble_eq_true rfl), (Nat.le_of_ble_eq_true rfl)⟩ (Nat.le_of_ble_eq_true rfl) ?_
  try dsimp only at hk
  exact or_xr E F (fun X' E' F' => or_iret E' F' dX10_middleLength_20 (Nat.le_of_ble_eq_true rfl) (Nat.le_of_ble_eq_true rfl) (hk.1 rfl))
def A_pricePerLength (x : Nat) (b : Int32) (I : ow_I) : Nat × UInt32 :=
  if A_barrelAt x b I = 0 then if I (x + 1 + 11 + 2 * (tn b)) 7 = nI 2 then if I (x + 1 + 11 + 2 * (tn b)) 2 = 0 then (0, FP.fconst0) else (0, FP.fdiv (FP.i2f (I (x + 1 + 11 + 2 * (tn b)) 9)) (FP.i2f (I (x + 1 + 11 + 2 * (tn b)) 2))) else (0, FP.fconst0) else (A_barrelAt x b I, 0)
set_option maxRecDepth 100000 in
set_option maxHeartbeats 400000 in
theorem cA_pricePerLength {Z : Nat → Nat} {S : Nat → Option ow_Sh} {I : ow_I} {V : Nat → Nat → Value} {z : Nat} {x : Nat} {b : Int32} (h_x : au_S S x) (hX : au_V x I) : ow_Cx Z yX10_pricePerLength cX10_pricePerLength 3 (some .float) 11 1 6 [.ref x, .int b] (S, I, V, z) (ox_s S V z ((A_pricePerLength x b I).1) (some (.float ((A_pricePerLength x b I).2))) I) := by
  refine ow_Cx.off rfl (Nat.le_of_ble_eq_true rfl) (fun X K E G F hk => ?_)
  have E : ow_E X RX10 cX10_pricePerLength 3 (ow_rm 11 1 6) := E
  refine or_lv [(0, .ref x), (1, .int b)] rfl ?_
  have hV := hX.1
  try dsimp only [A_pricePerLength] at hk
  refine or_aload_n E rfl dX10_pricePerLength_0 ?_
  refine or_iload_n E rfl dX10_pricePerLength_1 ?_
  refine or_fV1r (cA_barrelAt (Z := Z)  h_x hX.1) E G F lk_10_262 dX10_pricePerLength_2 h_x.1 rfl rfl (by decide) (by decide) ⟨(Nat.le_of_ble_eq_true rfl), (Nat.le_of_ble_eq_true rfl)⟩ (Nat.le_of_ble_eq_true rfl) (fun q2 => ?_) (fun q2 => (ite_n (P := fun r : Nat × UInt32 => ox_e K S V z ((r).1) (some (.float ((r).2))) I) (Nat.pos_iff_ne_zero.mp q2) hk).2 q2)
  replace hk := ite_p (P := fun r : Nat × UInt32 => ox_e K S V z ((r).1) (some (.float ((r).2))) I) q2 hk
  refine or_astore_n E dX10_pricePerLength_5 (by decide) ?_
  refine or_aload_n E rfl dX10_pricePerLength_6 ?_
  refine ot_getI E fl_10_286 dX10_pricePerLength_7 (mk_br2 h_x.2.1 (ab_2 hV q2)).1 rfl ?_
  refine or_iconst (v := nI 2) E rfl dX10_pricePerLength_10 ?_
  refine or_icmp_ne 21 E dX10_pricePerLength_11 rfl (fun q11 => ?_) (fun q11 => ?_)
  · replace hk := ite_n (P := fun r : Nat × UInt32 => ox_e K S V z ((r).1) (some (.float ((r).2))) I) q11 hk
    refine or_fconst0 E dX10_pricePerLength_21 ?_
    try dsimp only at hk
    exact or_xr E F (fun X' E' F' => or_fret E' F' dX10_pricePerLength_22 (Nat.le_of_ble_eq_true rfl) (Nat.le_of_ble_eq_true rfl) (hk.1 rfl))
  · replace hk := ite_p (P := fun r : Nat × UInt32 => ox_e K S V z ((r).1) (some (.float ((r).2))) I) q11 hk
    refine or_aload_n E rfl dX10_pricePerLength_14 ?_
    refine ot_getI E fl_10_277 dX10_pricePerLength_15 (mk_br2 h_x.2.1 (ab_2 hV q2)).1 rfl ?_
    refine or_if_ne 23 E dX10_pricePerLength_18 rfl (fun q18 => ?_) (fun q18 => ?_)
    · replace hk := ite_n (P := fun r : Nat × UInt32 => ox_e K S V z ((r).1) (some (.float ((r).2))) I) q18 hk
      refine or_aload_n E rfl dX10_pricePerLength_23 ?_
      refine ot_getI E fl_10_295 dX10_pricePerLength_24 (mk_br2 h_x.2.1 (ab_2 hV q2)).1 rfl ?_
      refine or_i2f E dX10_pricePerLength_27 ?_
      refine or_aload_n E rfl dX10_pricePerLength_28 ?_
      refine ot_getI E fl_10_277 dX10_pricePerLength_29 (mk_br2 h_x.2.1 (ab_2 hV q2)).1 rfl ?_
      refine or_i2f E dX10_pricePerLength_32 ?_
      refine or_fdiv E (fp_ff q18) dX10_pricePerLength_33 ?_
      try dsimp only at hk
      exact or_xr E F (fun X' E' F' => or_fret E' F' dX10_pricePerLength_34 (Nat.le_of_ble_eq_true rfl) (Nat.le_of_ble_eq_true rfl) (hk.1 rfl))
    · replace hk := ite_p (P := fun r : Nat × UInt32 => ox_e K S V z ((r).1) (some (.float ((r).2))) I) q18 hk
      refine or_fconst0 E dX10_pricePerLength_21 ?_
      try dsimp only at hk
      exact or_xr E F (fun X' E' F' => or_fret E' F' dX10_pricePerLength_22 (Nat.le_of_ble_eq_true rfl) (Nat.le_of_ble_eq_true rfl) (hk.1 rfl))
def A_worth (x : Nat) (y : Int32) (b : Int32) (I : ow_I) : Nat × UInt64 :=
  if A_buyerAt x y I = 0 then if A_barrelAt x b I = 0 then (0, Y_valueOf (x + 1 + 5 + (tn y)) (x + 1 + 11 + 2 * (tn b)) I) else (A_barrelAt x b I, 0) else (A_buyerAt x y I, 0)
set_option maxRecDepth 100000 in
set_option maxHeartbeats 400000 in
theorem cA_worth {Z : Nat → Nat} {S : Nat → Option ow_Sh} {I : ow_I} {V : Nat → Nat → Value} {z : Nat} {x : Nat} {y : Int32} {b : Int32} (h_x : au_S S x) (hX : au_V x I) : ow_Cx Z yX10_worth cX10_worth 3 (some .double) 11 2 12 [.ref x, .int y, .int b] (S, I, V, z) (ox_s S V z ((A_worth x y b I).1) (some (.double ((A_worth x y b I).2))) I) := by
  refine ow_Cx.off rfl (Nat.le_of_ble_eq_true rfl) (fun X K E G F hk => ?_)
  have E : ow_E X RX10 cX10_worth 3 (ow_rm 11 2 12) := E
  refine or_lv [(0, .ref x), (1, .int y), (2, .int b)] rfl ?_
  have hV := hX.1
  try dsimp only [A_worth] at hk
  refine or_aload_n E rfl dX10_worth_0 ?_
  refine or_iload_n E rfl dX10_worth_1 ?_
  refine or_fV1r (cA_buyerAt (Z := Z)  h_x hX.1) E G F lk_10_298 dX10_worth_2 h_x.1 rfl rfl (by decide) (by decide) ⟨(Nat.le_of_ble_eq_true rfl), (Nat.le_of_ble_eq_true rfl)⟩ (Nat.le_of_ble_eq_true rfl) (fun q2 => ?_) (fun q2 => (ite_n (P := fun r : Nat × UInt64 => ox_e K S V z ((r).1) (some (.double ((r).2))) I) (Nat.pos_iff_ne_zero.mp q2) hk).2 q2)
  replace hk := ite_p (P := fun r : Nat × UInt64 => ox_e K S V z ((r).1) (some (.double ((r).2))) I) q2 hk
  refine or_aload_n E rfl dX10_worth_5 ?_
  refine or_iload_n E rfl dX10_worth_6 ?_
  refine or_fV1r (cA_barrelAt (Z := Z)  h_x hX.1) E G F lk_10_262 dX10_worth_7 h_x.1 rfl rfl (by decide) (by decide) ⟨(Nat.le_of_ble_eq_true rfl), (Nat.le_of_ble_eq_true rfl)⟩ (Nat.le_of_ble_eq_true rfl) (fun q7 => ?_) (fun q7 => (ite_n (P := fun r : Nat × UInt64 => ox_e K S V z ((r).1) (some (.double ((r).2))) I) (Nat.pos_iff_ne_zero.mp q7) hk).2 q7)
  replace hk := ite_p (P := fun r : Nat × UInt64 => ox_e K S V z ((r).1) (some (.double ((r).2))) I) q7 hk
  refine or_cV1r (cY_valueOf  (mk_by2 h_x.2.1 (ay_2 hV q2)) (mk_br2 h_x.2.1 (ab_2 hV q7)) ) E lk_10_308 dX10_worth_10 (mk_by2 h_x.2.1 (ay_2 hV q2)) rfl rfl (by decide) (by decide) ⟨(Nat.le_of_ble_eq_true rfl), (Nat.le_of_ble_eq_true rfl)⟩ (Nat.le_of_ble_eq_true rfl) ?_
  try dsimp only at hk
  exact or_xr E F (fun X' E' F' => or_dret E' F' dX10_worth_13 (Nat.le_of_ble_eq_true rfl) (Nat.le_of_ble_eq_true rfl) (hk.1 rfl))
def A_whyNotNod (x : Nat) (b : Int32) (I : ow_I) : Nat × Int32 :=
  if A_requireBuyer x b I = 0 then (0, K_refusal (x + 1) b I) else (A_requireBuyer x b I, 0)
set_option maxRecDepth 100000 in
set_option maxHeartbeats 400000 in
theorem cA_whyNotNod {Z : Nat → Nat} {S : Nat → Option ow_Sh} {I : ow_I} {V : Nat → Nat → Value} {z : Nat} {x : Nat} {b : Int32} (h_x : au_S S x) (hX : au_V x I) : ow_Cx Z yX10_whyNotNod cX10_whyNotNod 2 (some .int) 10 1 6 [.ref x, .int b] (S, I, V, z) (ox_s S V z ((A_whyNotNod x b I).1) (some (.int ((A_whyNotNod x b I).2))) I) := by
  refine ow_Cx.off rfl (Nat.le_of_ble_eq_true rfl) (fun X K E G F hk => ?_)
  have E : ow_E X RX10 cX10_whyNotNod 2 (ow_rm 10 1 6) := E
  refine or_lv [(0, .ref x), (1, .int b)] rfl ?_
  try dsimp only [A_whyNotNod] at hk
  refine or_aload_n E rfl dX10_whyNotNod_0 ?_
  refine or_iload_n E rfl dX10_whyNotNod_1 ?_
  refine or_fV1v (cA_requireBuyer (Z := Z)  h_x ) E G F lk_10_127 dX10_whyNotNod_2 h_x.1 rfl rfl (by decide) (by decide) ⟨(Nat.le_of_ble_eq_true rfl), (Nat.le_of_ble_eq_true rfl)⟩ (Nat.le_of_ble_eq_true rfl) (fun q2 => ?_) (fun q2 => (ite_n (P := fun r : Nat × Int32 => ox_e K S V z ((r).1) (some (.int ((r).2))) I) (Nat.pos_iff_ne_zero.mp q2) hk).2 q2)
  replace hk := ite_p (P := fun r : Nat × Int32 => ox_e K S V z ((r).1) (some (.int ((r).2))) I) q2 hk
  refine or_aload_n E rfl dX10_whyNotNod_5 ?_
  refine ot_getC E fl_10_10 dX10_whyNotNod_6 h_x.1 rfl ?_
  refine or_iload_n E rfl dX10_whyNotNod_9 ?_
  refine or_cV1r (cK_refusal  h_x.2.1 hX.1) E lk_10_130 dX10_whyNotNod_10 h_x.2.1.1 rfl rfl (by decide) (by decide) ⟨(Nat.le_of_ble_eq_true rfl), (Nat.le_of_ble_eq_true rfl)⟩ (Nat.le_of_ble_eq_true rfl) ?_
  try dsimp only at hk
  exact or_xr E F (fun X' E' F' => or_iret E' F' dX10_whyNotNod_13 (Nat.le_of_ble_eq_true rfl) (Nat.le_of_ble_eq_true rfl) (hk.1 rfl))
def A_costOf (x : Nat) (c : Int32) (I : ow_I) : Nat × Int32 :=
  if A_requireRange c (nI 0) (nI 9999) I = 0 then (0, K_withFee (x + 1) c I) else (A_requireRange c (nI 0) (nI 9999) I, 0)
set_option maxRecDepth 100000 in
set_option maxHeartbeats 400000 in
theorem cA_costOf {Z : Nat → Nat} {S : Nat → Option ow_Sh} {I : ow_I} {V : Nat → Nat → Value} {z : Nat} {x : Nat} {c : Int32} (h_x : au_S S x)  : ow_Cx Z yX10_costOf cX10_costOf 2 (some .int) 10 1 6 [.ref x, .int c] (S, I, V, z) (ox_s S V z ((A_costOf x c I).1) (some (.int ((A_costOf x c I).2))) I) := by
  refine ow_Cx.off rfl (Nat.le_of_ble_eq_true rfl) (fun X K E G F hk => ?_)
  have E : ow_E X RX10 cX10_costOf 2 (ow_rm 10 1 6) := E
  refine or_lv [(0, .ref x), (1, .int c)] rfl ?_
  try dsimp only [A_costOf] at hk
  refine or_iload_n E rfl dX10_costOf_0 ?_
  refine or_iconst (v := nI 0) E rfl dX10_costOf_1 ?_
  refine or_sipush (v := nI 9999) E rfl dX10_costOf_2 ?_
  refine or_fT3v (cA_requireRange (Z := Z)   ) E G F lk_10_82 dX10_costOf_5 (by decide) (by decide) ⟨(Nat.le_of_ble_eq_true rfl), (Nat.le_of_ble_eq_true rfl)⟩ (Nat.le_of_ble_eq_true rfl) (fun q5 => ?_) (fun q5 => (ite_n (P := fun r : Nat × Int32 => ox_e K S V z ((r).1) (some (.int ((r).2))) I) (Nat.pos_iff_ne_zero.mp q5) hk).2 q5)
  replace hk := ite_p (P := fun r : Nat × Int32 => ox_e K S V z ((r).1) (some (.int ((r).2))) I) q5 hk
  refine or_aload_n E rfl dX10_costOf_8 ?_
  refine ot_getC E fl_10_10 dX10_costOf_9 h_x.1 rfl ?_
  refine or_iload_n E rfl dX10_costOf_12 ?_
  refine or_cV1r (cK_withFee  h_x.2.1 ) E lk_10_312 dX10_costOf_13 h_x.2.1.1 rfl rfl (by decide) (by decide) ⟨(Nat.le_of_ble_eq_true rfl), (Nat.le_of_ble_eq_true rfl)⟩ (Nat.le_of_ble_eq_true rfl) ?_
  try dsimp only at hk
  exact or_xr E F (fun X' E' F' => or_iret E' F' dX10_costOf_16 (Nat.le_of_ble_eq_true rfl) (Nat.le_of_ble_eq_true rfl) (hk.1 rfl))
def A_keenestBuyer (x : Nat) (b : Int32) (I : ow_I) : Nat × Nat :=
  if A_barrelAt x b I = 0 then (0, K_keenest (x + 1) (x + 1 + 11 + 2 * (tn b)) I) else (A_barrelAt x b I, 0)
set_option maxRecDepth 100000 in
set_option maxHeartbeats 400000 in
theorem cA_keenestBuyer {Z : Nat → Nat} {S : Nat → Option ow_Sh} {I : ow_I} {V : Nat → Nat → Value} {z : Nat} {x : Nat} {b : Int32} (h_x : au_S S x) (hX : au_V x I) : ow_Cx Z yX10_keenestBuyer cX10_keenestBuyer 2 (some .int) 11 1 6 [.ref x, .int b] (S, I, V, z) (ox_s S V z ((A_keenestBuyer x b I).1) (some (.int (nI ((A_keenestBuyer x b I).2)))) I) := by
  refine ow_Cx.off rfl (Nat.le_of_ble_eq_true rfl) (fun X K E G F hk => ?_)
  have E : ow_E X RX10 cX10_keenestBuyer 2 (ow_rm 11 1 6) := E
  refine or_lv [(0, .ref x), (1, .int b)] rfl ?_
  have hV := hX.1
  try dsimp only [A_keenestBuyer] at hk
  refine or_aload_n E rfl dX10_keenestBuyer_0 ?_
  refine ot_getC E fl_10_10 dX10_keenestBuyer_1 h_x.1 rfl ?_
  refine or_aload_n E rfl dX10_keenestBuyer_4 ?_
  refine or_iload_n E rfl dX10_keenestBuyer_5 ?_
  refine or_fV1r (cA_barrelAt (Z := Z)  h_x hX.1) E G F lk_10_262 dX10_keenestBuyer_6 h_x.1 rfl rfl (by decide) (by decide) ⟨(Nat.le_of_ble_eq_true rfl), (Nat.le_of_ble_eq_true rfl)⟩ (Nat.le_of_ble_eq_true rfl) (fun q6 => ?_) (fun q6 => (ite_n (P := fun r : Nat × Nat => ox_e K S V z ((r).1) (some (.int (nI ((r).2)))) I) (Nat.pos_iff_ne_zero.mp q6) hk).2 q6)
  replace hk := ite_p (P := fun r : Nat × Nat => ox_e K S V z ((r).1) (some (.int (nI ((r).2)))) I) q6 hk
  refine or_cV1r (cK_keenest  h_x.2.1 (mk_br2 h_x.2.1 (ab_2 hV q6)) hX.1.1.1 hX.1.1.2) E lk_10_318 dX10_keenestBuyer_9 h_x.2.1.1 rfl rfl (by decide) (by decide) ⟨(Nat.le_of_ble_eq_true rfl), (Nat.le_of_ble_eq_true rfl)⟩ (Nat.le_of_ble_eq_true rfl) ?_
  try dsimp only at hk
  exact or_xr E F (fun X' E' F' => or_iret E' F' dX10_keenestBuyer_12 (Nat.le_of_ble_eq_true rfl) (Nat.le_of_ble_eq_true rfl) (hk.1 rfl))
def A_coinError (x : Nat) (I : ow_I) : Int32 :=
  I (x + 1) 6 - (K_coinsInPurses (x + 1) I) - (I (x + 1) 4) - (I (x + 1) 5)
set_option maxRecDepth 100000 in
set_option maxHeartbeats 400000 in
theorem cA_coinError {Z : Nat → Nat} {S : Nat → Option ow_Sh} {I : ow_I} {V : Nat → Nat → Value} {z : Nat} {x : Nat} (h_x : au_S S x) (hX : au_V x I) : ow_Cx Z yX10_coinError cX10_coinError 1 (some .int) 1 0 0 [.ref x] (S, I, V, z) (ox_s S V z 0 (some (.int (A_coinError x I))) I) := by
  refine ow_Cx.off rfl (Nat.le_of_ble_eq_true rfl) (fun X K E G F hk => ?_)
  have E : ow_E X RX10 cX10_coinError 1 (ow_rm 1 0 0) := E
  refine or_lv [(0, .ref x)] rfl ?_
  try dsimp only [A_coinError] at hk
  refine or_aload_n E rfl dX10_coinError_0 ?_
  refine ot_getC E fl_10_10 dX10_coinError_1 h_x.1 rfl ?_
  refine ot_getI E fl_10_325 dX10_coinError_4 h_x.2.1.1 rfl ?_
  refine or_aload_n E rfl dX10_coinError_7 ?_
  refine ot_getC E fl_10_10 dX10_coinError_8 h_x.1 rfl ?_
  refine or_cV0r (cK_coinsInPurses  h_x.2.1 hX.1.1.1 hX.1.1.2) E lk_10_328 dX10_coinError_11 h_x.2.1.1 rfl rfl (by decide) (by decide) ⟨(Nat.le_of_ble_eq_true rfl), (Nat.le_of_ble_eq_true rfl)⟩ (Nat.le_of_ble_eq_true rfl) ?_
  refine or_isub E dX10_coinError_14 ?_
  refine or_aload_n E rfl dX10_coinError_15 ?_
  refine ot_getC E fl_10_10 dX10_coinError_16 h_x.1 rfl ?_
  refine ot_getI E fl_10_241 dX10_coinError_19 h_x.2.1.1 rfl ?_
  refine or_isub E dX10_coinError_22 ?_
  refine or_aload_n E rfl dX10_coinError_23 ?_
  refine ot_getC E fl_10_10 dX10_coinError_24 h_x.1 rfl ?_
  refine ot_getI E fl_10_244 dX10_coinError_27 h_x.2.1.1 rfl ?_
  refine or_isub E dX10_coinError_30 ?_
  exact or_xr E F (fun X' E' F' => or_iret E' F' dX10_coinError_31 (Nat.le_of_ble_eq_true rfl) (Nat.le_of_ble_eq_true rfl) (hk.1 rfl))
def A_meanLength_L6 (x : Nat) : Nat → ow_I → Int32 → Int32 → Nat → UInt64
  | 0, I, _, _, _ => 0
  | n + 1, I, l, e, i => if tn (I (x + 1) 10) ≤ i then if e = 0 then FP.dconst0 else FP.ddiv (FP.i2d l) (FP.i2d e) else A_meanLength_L6 x n I (l + (I ((x + 1) + 11 + 2 * i) 2)) (e + (I ((x + 1) + 11 + 2 * i) 1)) (i + 1)
def A_meanLength (x : Nat) (I : ow_I) : UInt64 :=
  A_meanLength_L6 x 21 I (nI 0) (nI 0) 0
set_option maxRecDepth 100000 in
set_option maxHeartbeats 400000 in
theorem cA_meanLength {Z : Nat → Nat} {S : Nat → Option ow_Sh} {I : ow_I} {V : Nat → Nat → Value} {z : Nat} {x : Nat} (h_x : au_S S x) (hX : au_V x I) : ow_Cx Z yX10_meanLength cX10_meanLength 4 (some .double) 0 0 0 [.ref x] (S, I, V, z) (ox_s S V z 0 (some (.double (A_meanLength x I))) I) := by
  refine ow_Cx.off rfl (Nat.le_of_ble_eq_true rfl) (fun X K E G F hk => ?_)
  have E : ow_E X RX10 cX10_meanLength 4 (ow_rm 0 0 0) := E
  refine or_lv [(0, .ref x)] rfl ?_
  have h10 := hX.1.2.1.2
  have L6 : ∀ (n : Nat) (I : ow_I) (l : Int32) (e : Int32) (i : Nat) (hX : au_V x I) (hi : i ≤ 20) (hm : 20 - i < n) (hk : ox_e K S V z 0 (some (.double (A_meanLength_L6 x n I l e i))) I), ow_W X 0 0 (S, I, V, z) 6 [(0, .ref x), (1, .int l), (2, .int e), (3, .int (nI i))] [] := by
    intro n
    induction n with
    | zero => intro I l e i hX hi hm; omega
    | succ n ih =>
      intro I l e i hX hi hm hk
      dsimp only [A_meanLength_L6] at hk
      have h10 := hX.1.2.1.2
      refine or_iload_n E rfl dX10_meanLength_6 ?_
      refine or_aload_n E rfl dX10_meanLength_7 ?_
      refine ot_getC E fl_10_10 dX10_meanLength_8 h_x.1 rfl ?_
      refine ot_getI E fl_10_104 dX10_meanLength_11 h_x.2.1.1 rfl ?_
      refine or_top (nI_tn hX.1.2.1.1).symm ?_
      refine or_icmp_geN 53 E dX10_meanLength_14 rfl (by omega) (by omega) (fun q14 => ?_) (fun q14 => ?_)
      · replace hk := ite_p (P := fun r : UInt64 => ox_e K S V z 0 (some (.double (r))) I) q14 hk
        refine or_iload_n E rfl dX10_meanLength_53 ?_
        refine or_if_ne 61 E dX10_meanLength_54 rfl (fun q54 => ?_) (fun q54 => ?_)
        · replace hk := ite_n (P := fun r : UInt64 => ox_e K S V z 0 (some (.double (r))) I) q54 hk
          refine or_iload_n E rfl dX10_meanLength_61 ?_
          refine or_i2d E dX10_meanLength_62 ?_
          refine or_iload_n E rfl dX10_meanLength_63 ?_
          refine or_i2d E dX10_meanLength_64 ?_
          refine or_ddiv E (fp_dd q54) dX10_meanLength_65 ?_
          exact or_xr E F (fun X' E' F' => or_dret E' F' dX10_meanLength_66 (Nat.le_of_ble_eq_true rfl) (Nat.le_of_ble_eq_true rfl) (hk.1 rfl))
        · replace hk := ite_p (P := fun r : UInt64 => ox_e K S V z 0 (some (.double (r))) I) q54 hk
          refine or_dconst0 E dX10_meanLength_57 ?_
          refine or_goto 66 E dX10_meanLength_58 rfl ?_
          exact or_xr E F (fun X' E' F' => or_dret E' F' dX10_meanLength_66 (Nat.le_of_ble_eq_true rfl) (Nat.le_of_ble_eq_true rfl) (hk.1 rfl))
      · replace hk := ite_n (P := fun r : UInt64 => ox_e K S V z 0 (some (.double (r))) I) q14 hk
        refine or_iload_n E rfl dX10_meanLength_17 ?_
        refine or_aload_n E rfl dX10_meanLength_18 ?_
        refine ot_getC E fl_10_10 dX10_meanLength_19 h_x.1 rfl ?_
        refine ot_getC E fl_10_194 dX10_meanLength_22 h_x.2.1.1 rfl ?_
        refine or_iload_n E rfl dX10_meanLength_25 ?_
        refine ot_aald (j := i) E dX10_meanLength_26 h_x.2.1.2.2.2.1 rfl rfl (by omega) (Nat.le_of_ble_eq_true rfl) ?_
        refine ot_getI E fl_10_277 dX10_meanLength_27 (h_x.2.1.2.2.2.2.2.2 i (by omega)).1 rfl ?_
        refine or_iadd E dX10_meanLength_30 ?_
        refine or_istore_n E dX10_meanLength_31 (by decide) ?_
        refine or_iload_n E rfl dX10_meanLength_32 ?_
        refine or_aload_n E rfl dX10_meanLength_33 ?_
        refine ot_getC E fl_10_10 dX10_meanLength_34 h_x.1 rfl ?_
        refine ot_getC E fl_10_194 dX10_meanLength_37 h_x.2.1.1 rfl ?_
        refine or_iload_n E rfl dX10_meanLength_40 ?_
        refine ot_aald (j := i) E dX10_meanLength_41 h_x.2.1.2.2.2.1 rfl rfl (by omega) (Nat.le_of_ble_eq_true rfl) ?_
        refine ot_getI E fl_10_266 dX10_meanLength_42 (h_x.2.1.2.2.2.2.2.2 i (by omega)).1 rfl ?_
        refine or_iadd E dX10_meanLength_45 ?_
        refine or_istore_n E dX10_meanLength_46 (by decide) ?_
        refine or_iincN (c := 1) E dX10_meanLength_47 rfl rfl (by decide) ?_
        refine or_goto 6 E dX10_meanLength_50 rfl ?_
        refine or_lv _ ?_ (ih _ _ _ _ hX (by omega) (by omega) hk)
        rfl
  try dsimp only [A_meanLength] at hk
  refine or_iconst (v := nI 0) E rfl dX10_meanLength_0 ?_
  refine or_istore_n E dX10_meanLength_1 (by decide) ?_
  refine or_iconst (v := nI 0) E rfl dX10_meanLength_2 ?_
  refine or_istore_n E dX10_meanLength_3 (by decide) ?_
  refine or_iconst (v := nI 0) E rfl dX10_meanLength_4 ?_
  refine or_istore_n E dX10_meanLength_5 (by decide) ?_
  refine or_lv _ ?_ (L6 21 _ _ _ _ hX (by decide) (by decide) hk)
  rfl
def A_soldShare_L4 (x : Nat) : Nat → ow_I → Nat → Nat → UInt32
  | 0, I, _, _ => 0
  | n + 1, I, c, i => if tn (I (x + 1) 10) ≤ i then if I (x + 1) 10 = 0 then FP.fconst0 else FP.fdiv (FP.i2f (nI c)) (FP.i2f (I (x + 1) 10)) else if I ((x + 1) + 11 + 2 * i) 7 = nI 2 then A_soldShare_L4 x n I (c + 1) (i + 1) else A_soldShare_L4 x n I c (i + 1)
def A_soldShare (x : Nat) (I : ow_I) : UInt32 :=
  A_soldShare_L4 x 21 I 0 0
set_option maxRecDepth 100000 in
set_option maxHeartbeats 400000 in
theorem cA_soldShare {Z : Nat → Nat} {S : Nat → Option ow_Sh} {I : ow_I} {V : Nat → Nat → Value} {z : Nat} {x : Nat} (h_x : au_S S x) (hX : au_V x I) : ow_Cx Z yX10_soldShare cX10_soldShare 3 (some .float) 0 0 0 [.ref x] (S, I, V, z) (ox_s S V z 0 (some (.float (A_soldShare x I))) I) := by
  refine ow_Cx.off rfl (Nat.le_of_ble_eq_true rfl) (fun X K E G F hk => ?_)
  have E : ow_E X RX10 cX10_soldShare 3 (ow_rm 0 0 0) := E
  refine or_lv [(0, .ref x)] rfl ?_
  have h10 := hX.1.2.1.2
  have L4 : ∀ (n : Nat) (I : ow_I) (c : Nat) (i : Nat) (hX : au_V x I) (hi : i ≤ 20) (hm : 20 - i < n) (hk : ox_e K S V z 0 (some (.float (A_soldShare_L4 x n I c i))) I), ow_W X 0 0 (S, I, V, z) 4 [(0, .ref x), (1, .int (nI c)), (2, .int (nI i))] [] := by
    intro n
    induction n with
    | zero => intro I c i hX hi hm; omega
    | succ n ih =>
      intro I c i hX hi hm hk
      dsimp only [A_soldShare_L4] at hk
      have h10 := hX.1.2.1.2
      refine or_iload_n E rfl dX10_soldShare_4 ?_
      refine or_aload_n E rfl dX10_soldShare_5 ?_
      refine ot_getC E fl_10_10 dX10_soldShare_6 h_x.1 rfl ?_
      refine ot_getI E fl_10_104 dX10_soldShare_9 h_x.2.1.1 rfl ?_
      refine or_top (nI_tn hX.1.2.1.1).symm ?_
      refine or_icmp_geN 40 E dX10_soldShare_12 rfl (by omega) (by omega) (fun q12 => ?_) (fun q12 => ?_)
      · replace hk := ite_p (P := fun r : UInt32 => ox_e K S V z 0 (some (.float (r))) I) q12 hk
        refine or_aload_n E rfl dX10_soldShare_40 ?_
        refine ot_getC E fl_10_10 dX10_soldShare_41 h_x.1 rfl ?_
        refine ot_getI E fl_10_104 dX10_soldShare_44 h_x.2.1.1 rfl ?_
        refine or_if_ne 54 E dX10_soldShare_47 rfl (fun q47 => ?_) (fun q47 => ?_)
        · replace hk := ite_n (P := fun r : UInt32 => ox_e K S V z 0 (some (.float (r))) I) q47 hk
          refine or_iload_n E rfl dX10_soldShare_54 ?_
          refine or_i2f E dX10_soldShare_55 ?_
          refine or_aload_n E rfl dX10_soldShare_56 ?_
          refine ot_getC E fl_10_10 dX10_soldShare_57 h_x.1 rfl ?_
          refine ot_getI E fl_10_104 dX10_soldShare_60 h_x.2.1.1 rfl ?_
          refine or_i2f E dX10_soldShare_63 ?_
          refine or_fdiv E (fp_ff q47) dX10_soldShare_64 ?_
          exact or_xr E F (fun X' E' F' => or_fret E' F' dX10_soldShare_65 (Nat.le_of_ble_eq_true rfl) (Nat.le_of_ble_eq_true rfl) (hk.1 rfl))
        · replace hk := ite_p (P := fun r : UInt32 => ox_e K S V z 0 (some (.float (r))) I) q47 hk
          refine or_fconst0 E dX10_soldShare_50 ?_
          refine or_goto 65 E dX10_soldShare_51 rfl ?_
          exact or_xr E F (fun X' E' F' => or_fret E' F' dX10_soldShare_65 (Nat.le_of_ble_eq_true rfl) (Nat.le_of_ble_eq_true rfl) (hk.1 rfl))
      · replace hk := ite_n (P := fun r : UInt32 => ox_e K S V z 0 (some (.float (r))) I) q12 hk
        refine or_aload_n E rfl dX10_soldShare_15 ?_
        refine ot_getC E fl_10_10 dX10_soldShare_16 h_x.1 rfl ?_
        refine ot_getC E fl_10_194 dX10_soldShare_19 h_x.2.1.1 rfl ?_
        refine or_iload_n E rfl dX10_soldShare_22 ?_
        refine ot_aald (j := i) E dX10_soldShare_23 h_x.2.1.2.2.2.1 rfl rfl (by omega) (Nat.le_of_ble_eq_true rfl) ?_
        refine ot_getI E fl_10_286 dX10_soldShare_24 (h_x.2.1.2.2.2.2.2.2 i (by omega)).1 rfl ?_
        refine or_iconst (v := nI 2) E rfl dX10_soldShare_27 ?_
        refine or_icmp_ne 34 E dX10_soldShare_28 rfl (fun q28 => ?_) (fun q28 => ?_)
        · replace hk := ite_n (P := fun r : UInt32 => ox_e K S V z 0 (some (.float (r))) I) q28 hk
          refine or_iincN (c := 1) E dX10_soldShare_34 rfl rfl (by decide) ?_
          refine or_goto 4 E dX10_soldShare_37 rfl ?_
          refine or_lv _ ?_ (ih _ _ _ hX (by omega) (by omega) hk)
          rfl
        · replace hk := ite_p (P := fun r : UInt32 => ox_e K S V z 0 (some (.float (r))) I) q28 hk
          refine or_iincN (c := 1) E dX10_soldShare_31 rfl rfl (by decide) ?_
          refine or_iincN (c := 1) E dX10_soldShare_34 rfl rfl (by decide) ?_
          refine or_goto 4 E dX10_soldShare_37 rfl ?_
          refine or_lv _ ?_ (ih _ _ _ hX (by omega) (by omega) hk)
          rfl
  try dsimp only [A_soldShare] at hk
  refine or_iconst (v := nI 0) E rfl dX10_soldShare_0 ?_
  refine or_istore_n E dX10_soldShare_1 (by decide) ?_
  refine or_iconst (v := nI 0) E rfl dX10_soldShare_2 ?_
  refine or_istore_n E dX10_soldShare_3 (by decide) ?_
  refine or_lv _ ?_ (L4 21 _ _ _ hX (by decide) (by decide) hk)
  rfl
def A_foresee (x : Nat) (s : Int32) (n : Nat) (I : ow_I) : ow_I :=
  lt (K_copyFrom (x + 52) (x + 1) I) (fun (I1 : ow_I) => lt (ow_u I1 (x + 52) 2 s) (fun (I2 : ow_I) => lt (K_letPass (x + 52) n I2) (fun (r3 : Int32 × ow_I) => r3.2)))
set_option maxRecDepth 100000 in
set_option maxHeartbeats 400000 in
theorem cA_foresee {Z : Nat → Nat} {S : Nat → Option ow_Sh} {I : ow_I} {V : Nat → Nat → Value} {z : Nat} {x : Nat} {s : Int32} {n : Nat} (h_x : au_S S x) (hV : k_V (x + 1) I) (hW : k_V (x + 52) I) (hn : n < 2 ^ 31) : ow_Cx Z yX10_foresee cX10_foresee 3 none 5 0 0 [.ref x, .int s, .int (nI n)] (S, I, V, z) (ox_s S V z 0 none (A_foresee x s n I)) := by
  refine ow_Cx.off rfl (Nat.le_of_ble_eq_true rfl) (fun X K E G F hk => ?_)
  have E : ow_E X RX10 cX10_foresee 3 (ow_rm 5 0 0) := E
  refine or_lv [(0, .ref x), (1, .int s), (2, .int (nI n))] rfl ?_
  try dsimp only [A_foresee] at hk
  refine or_aload_n E rfl dX10_foresee_0 ?_
  refine ot_getC E fl_10_16 dX10_foresee_1 h_x.1 rfl ?_
  refine or_aload_n E rfl dX10_foresee_4 ?_
  refine ot_getC E fl_10_10 dX10_foresee_5 h_x.1 rfl ?_
  refine or_cV1v (cK_copyFrom  h_x.2.2.1 h_x.2.1 (by omega) hV.1.1 hV.1.2 hV.2.1.1 hV.2.1.2) E lk_10_101 dX10_foresee_8 h_x.2.2.1.1 rfl rfl (by decide) (by decide) ⟨(Nat.le_of_ble_eq_true rfl), (Nat.le_of_ble_eq_true rfl)⟩ (Nat.le_of_ble_eq_true rfl) ?_
  obtain ⟨I1, hI1⟩ : ∃ y_ : ow_I, y_ = K_copyFrom (x + 52) (x + 1) I := ⟨_, rfl⟩
  replace hk := lt_k (P := fun r : ow_I => ox_e K S V z 0 none r) hI1 hk
  refine or_nmI hI1 ?_
  refine or_aload_n E rfl dX10_foresee_11 ?_
  refine ot_getC E fl_10_16 dX10_foresee_12 h_x.1 rfl ?_
  refine or_iload_n E rfl dX10_foresee_15 ?_
  refine ot_putI E fl_10_203 fw_6_2 dX10_foresee_16 h_x.2.2.1.1 rfl ?_
  obtain ⟨I2, hI2⟩ : ∃ y_ : ow_I, y_ = ow_u I1 (x + 52) 2 s := ⟨_, rfl⟩
  replace hk := lt_k (P := fun r : ow_I => ox_e K S V z 0 none r) hI2 hk
  refine or_nmI hI2 ?_
  refine or_aload_n E rfl dX10_foresee_19 ?_
  refine ot_getC E fl_10_16 dX10_foresee_20 h_x.1 rfl ?_
  refine or_iload_n E rfl dX10_foresee_23 ?_
  refine or_cV1r (cK_letPass  h_x.2.2.1 (by subst hI2 hI1; exact hn) (by subst hI2 hI1; exact (fun n => kV_it n _ (kV_a (kV_sc hV hW) (by decide))))) E lk_10_144 dX10_foresee_24 h_x.2.2.1.1 rfl rfl (by decide) (by decide) ⟨(Nat.le_of_ble_eq_true rfl), (Nat.le_of_ble_eq_true rfl)⟩ (Nat.le_of_ble_eq_true rfl) ?_
  obtain ⟨r3, hr3⟩ : ∃ y_ : Int32 × ow_I, y_ = K_letPass (x + 52) n I2 := ⟨_, rfl⟩
  replace hk := lt_k (P := fun r : ow_I => ox_e K S V z 0 none r) hr3 hk
  refine or_nmJ hr3 ?_
  refine or_pop E rfl dX10_foresee_27 ?_
  exact or_xr E F (fun X' E' F' => or_vret E' F' dX10_foresee_28 (Nat.le_of_ble_eq_true rfl) (Nat.le_of_ble_eq_true rfl) (hk.1 rfl))
def A_sellerCoinsAfter (x : Nat) (m : Int32) (I : ow_I) : Nat × Int32 × ow_I :=
  if A_requireRange m (nI 0) (nI 500) I = 0 then lt (A_foresee x (I (x + 1) 2) (tn m) I) (fun (I1 : ow_I) => (0, I1 (x + 52) 4, I1)) else (A_requireRange m (nI 0) (nI 500) I, 0, I)
set_option maxRecDepth 100000 in
set_option maxHeartbeats 400000 in
theorem cA_sellerCoinsAfter {Z : Nat → Nat} {S : Nat → Option ow_Sh} {I : ow_I} {V : Nat → Nat → Value} {z : Nat} {x : Nat} {m : Int32} (h_x : au_S S x) (hX : au_V x I) : ow_Cx Z yX10_sellerCoinsAfter cX10_sellerCoinsAfter 2 (some .int) 10 1 6 [.ref x, .int m] (S, I, V, z) (ox_s S V z ((A_sellerCoinsAfter x m I).1) (some (.int ((A_sellerCoinsAfter x m I).2.1))) ((A_sellerCoinsAfter x m I).2.2)) := by
  refine ow_Cx.off rfl (Nat.le_of_ble_eq_true rfl) (fun X K E G F hk => ?_)
  have E : ow_E X RX10 cX10_sellerCoinsAfter 2 (ow_rm 10 1 6) := E
  refine or_lv [(0, .ref x), (1, .int m)] rfl ?_
  try dsimp only [A_sellerCoinsAfter] at hk
  refine or_iload_n E rfl dX10_sellerCoinsAfter_0 ?_
  refine or_iconst (v := nI 0) E rfl dX10_sellerCoinsAfter_1 ?_
  refine or_sipush (v := nI 500) E rfl dX10_sellerCoinsAfter_2 ?_
  refine or_fT3v (cA_requireRange (Z := Z)   ) E G F lk_10_82 dX10_sellerCoinsAfter_5 (by decide) (by decide) ⟨(Nat.le_of_ble_eq_true rfl), (Nat.le_of_ble_eq_true rfl)⟩ (Nat.le_of_ble_eq_true rfl) (fun q5 => ?_) (fun q5 => (ite_n (P := fun r : Nat × Int32 × ow_I => ox_e K S V z ((r).1) (some (.int ((r).2.1))) ((r).2.2)) (Nat.pos_iff_ne_zero.mp q5) hk).2 q5)
  replace hk := ite_p (P := fun r : Nat × Int32 × ow_I => ox_e K S V z ((r).1) (some (.int ((r).2.1))) ((r).2.2)) q5 hk
  refine or_aload_n E rfl dX10_sellerCoinsAfter_8 ?_
  refine or_aload_n E rfl dX10_sellerCoinsAfter_9 ?_
  refine ot_getC E fl_10_10 dX10_sellerCoinsAfter_10 h_x.1 rfl ?_
  refine ot_getI E fl_10_203 dX10_sellerCoinsAfter_13 h_x.2.1.1 rfl ?_
  refine or_iload_n E rfl dX10_sellerCoinsAfter_16 ?_
  refine or_top (nI_tn (rg_0 (by decide) q5)).symm ?_
  refine or_fV2v (cA_foresee (Z := Z)  h_x hX.1 hX.2.1 (tn_lt _)) E G F lk_10_322 dX10_sellerCoinsAfter_17 h_x.1 rfl rfl (by decide) (by decide) ⟨(Nat.le_of_ble_eq_true rfl), (Nat.le_of_ble_eq_true rfl)⟩ (Nat.le_of_ble_eq_true rfl) (fun _ => ?_) (fun h => absurd h (Nat.lt_irrefl 0))
  obtain ⟨I1, hI1⟩ : ∃ y_ : ow_I, y_ = A_foresee x (I (x + 1) 2) (tn m) I := ⟨_, rfl⟩
  replace hk := lt_k (P := fun r : Nat × Int32 × ow_I => ox_e K S V z ((r).1) (some (.int ((r).2.1))) ((r).2.2)) hI1 hk
  refine or_nmI hI1 ?_
  refine or_aload_n E rfl dX10_sellerCoinsAfter_20 ?_
  refine ot_getC E fl_10_16 dX10_sellerCoinsAfter_21 h_x.1 rfl ?_
  refine ot_getI E fl_10_241 dX10_sellerCoinsAfter_24 h_x.2.2.1.1 rfl ?_
  try dsimp only at hk
  exact or_xr E F (fun X' E' F' => or_iret E' F' dX10_sellerCoinsAfter_27 (Nat.le_of_ble_eq_true rfl) (Nat.le_of_ble_eq_true rfl) (hk.1 rfl))
def A_buyerAfter (x : Nat) (b : Int32) (m : Int32) (I : ow_I) : Nat × Int32 × ow_I :=
  if A_requireBarrel x b I = 0 then if A_requireRange m (nI 0) (nI 500) I = 0 then lt (A_foresee x (I (x + 1) 2) (tn m) I) (fun (I1 : ow_I) => (0, I1 ((x + 52) + 11 + 2 * (tn b)) 8, I1)) else (A_requireRange m (nI 0) (nI 500) I, 0, I) else (A_requireBarrel x b I, 0, I)
set_option maxRecDepth 100000 in
set_option maxHeartbeats 400000 in
theorem cA_buyerAfter {Z : Nat → Nat} {S : Nat → Option ow_Sh} {I : ow_I} {V : Nat → Nat → Value} {z : Nat} {x : Nat} {b : Int32} {m : Int32} (h_x : au_S S x) (hX : au_V x I) : ow_Cx Z yX10_buyerAfter cX10_buyerAfter 3 (some .int) 10 2 12 [.ref x, .int b, .int m] (S, I, V, z) (ox_s S V z ((A_buyerAfter x b m I).1) (some (.int ((A_buyerAfter x b m I).2.1))) ((A_buyerAfter x b m I).2.2)) := by
  refine ow_Cx.off rfl (Nat.le_of_ble_eq_true rfl) (fun X K E G F hk => ?_)
  have E : ow_E X RX10 cX10_buyerAfter 3 (ow_rm 10 2 12) := E
  refine or_lv [(0, .ref x), (1, .int b), (2, .int m)] rfl ?_
  try dsimp only [A_buyerAfter] at hk
  refine or_aload_n E rfl dX10_buyerAfter_0 ?_
  refine or_iload_n E rfl dX10_buyerAfter_1 ?_
  refine or_fV1v (cA_requireBarrel (Z := Z)  h_x ) E G F lk_10_161 dX10_buyerAfter_2 h_x.1 rfl rfl (by decide) (by decide) ⟨(Nat.le_of_ble_eq_true rfl), (Nat.le_of_ble_eq_true rfl)⟩ (Nat.le_of_ble_eq_true rfl) (fun q2 => ?_) (fun q2 => (ite_n (P := fun r : Nat × Int32 × ow_I => ox_e K S V z ((r).1) (some (.int ((r).2.1))) ((r).2.2)) (Nat.pos_iff_ne_zero.mp q2) hk).2 q2)
  replace hk := ite_p (P := fun r : Nat × Int32 × ow_I => ox_e K S V z ((r).1) (some (.int ((r).2.1))) ((r).2.2)) q2 hk
  refine or_iload_n E rfl dX10_buyerAfter_5 ?_
  refine or_iconst (v := nI 0) E rfl dX10_buyerAfter_6 ?_
  refine or_sipush (v := nI 500) E rfl dX10_buyerAfter_7 ?_
  refine or_fT3v (cA_requireRange (Z := Z)   ) E G F lk_10_82 dX10_buyerAfter_10 (by decide) (by decide) ⟨(Nat.le_of_ble_eq_true rfl), (Nat.le_of_ble_eq_true rfl)⟩ (Nat.le_of_ble_eq_true rfl) (fun q10 => ?_) (fun q10 => (ite_n (P := fun r : Nat × Int32 × ow_I => ox_e K S V z ((r).1) (some (.int ((r).2.1))) ((r).2.2)) (Nat.pos_iff_ne_zero.mp q10) hk).2 q10)
  replace hk := ite_p (P := fun r : Nat × Int32 × ow_I => ox_e K S V z ((r).1) (some (.int ((r).2.1))) ((r).2.2)) q10 hk
  refine or_aload_n E rfl dX10_buyerAfter_13 ?_
  refine or_aload_n E rfl dX10_buyerAfter_14 ?_
  refine ot_getC E fl_10_10 dX10_buyerAfter_15 h_x.1 rfl ?_
  refine ot_getI E fl_10_203 dX10_buyerAfter_18 h_x.2.1.1 rfl ?_
  refine or_iload_n E rfl dX10_buyerAfter_21 ?_
  refine or_top (nI_tn (rg_0 (by decide) q10)).symm ?_
  refine or_fV2v (cA_foresee (Z := Z)  h_x hX.1 hX.2.1 (tn_lt _)) E G F lk_10_322 dX10_buyerAfter_22 h_x.1 rfl rfl (by decide) (by decide) ⟨(Nat.le_of_ble_eq_true rfl), (Nat.le_of_ble_eq_true rfl)⟩ (Nat.le_of_ble_eq_true rfl) (fun _ => ?_) (fun h => absurd h (Nat.lt_irrefl 0))
  obtain ⟨I1, hI1⟩ : ∃ y_ : ow_I, y_ = A_foresee x (I (x + 1) 2) (tn m) I := ⟨_, rfl⟩
  replace hk := lt_k (P := fun r : Nat × Int32 × ow_I => ox_e K S V z ((r).1) (some (.int ((r).2.1))) ((r).2.2)) hI1 hk
  refine or_nmI hI1 ?_
  refine or_aload_n E rfl dX10_buyerAfter_25 ?_
  refine ot_getC E fl_10_16 dX10_buyerAfter_26 h_x.1 rfl ?_
  refine ot_getC E fl_10_194 dX10_buyerAfter_29 h_x.2.2.1.1 rfl ?_
  refine or_iload_n E rfl dX10_buyerAfter_32 ?_
  refine or_top (nI_tn (by subst hI1; exact (rb_0' q2).1)).symm ?_
  refine ot_aald (j := tn b) E dX10_buyerAfter_33 h_x.2.2.1.2.2.2.1 rfl rfl (by subst hI1; have h9 := (rb_0' q2).2; have h8 := hX.1.2.1.2; omega) (Nat.le_of_ble_eq_true rfl) ?_
  refine ot_getI E fl_10_292 dX10_buyerAfter_34 (h_x.2.2.1.2.2.2.2.2.2 (tn b) (by subst hI1; have h9 := (rb_0' q2).2; have h8 := hX.1.2.1.2; omega)).1 rfl ?_
  try dsimp only at hk
  exact or_xr E F (fun X' E' F' => or_iret E' F' dX10_buyerAfter_37 (Nat.le_of_ble_eq_true rfl) (Nat.le_of_ble_eq_true rfl) (hk.1 rfl))
