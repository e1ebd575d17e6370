def M_errorCode (m : Nat) (I : ow_I) : Int32 × ow_I :=
  lt (ow_u I m 18 (nI 0)) (fun (I1 : ow_I) => (I1 m 6, I1))
set_option maxRecDepth 100000 in
set_option maxHeartbeats 400000 in
theorem cM_errorCode {S : Nat → Option ow_Sh} {I : ow_I} {V : Nat → Nat → Value} {z : Nat} {m : Nat} (h_m : md_S S m)  : ow_Cf yX11_errorCode cX11_errorCode 1 (some .int) 0 [.ref m] (S, I, V, z) (some (.int ((M_errorCode m I).1))) (S, (M_errorCode m I).2, V, z) := by
  refine ow_Cf.of rfl (Nat.le_of_ble_eq_true rfl) (fun X K E F hk => ?_)
  have E : ow_E X RX11 cX11_errorCode 1 (ow_rm 0 0 0) := E
  refine or_lv [(0, .ref m)] rfl ?_
  dsimp only [M_errorCode] at hk
  refine or_aload_n E rfl dX11_errorCode_0 ?_
  refine or_iconst (v := nI 0) E rfl dX11_errorCode_1 ?_
  refine ot_putI E fl_11_54 fw_11_18 dX11_errorCode_2 h_m.1 rfl ?_
  obtain ⟨I1, hI1⟩ : ∃ y_ : ow_I, y_ = ow_u I m 18 (nI 0) := ⟨_, rfl⟩
  replace hk := lt_k (P := fun r : Int32 × ow_I => K (some (.int ((r).1))) (S, (r).2, V, z)) hI1 hk
  refine or_nmI hI1 ?_
  refine or_aload_n E rfl dX11_errorCode_5 ?_
  refine ot_getI E fl_11_177 dX11_errorCode_6 h_m.1 rfl ?_
  try dsimp only at hk
  exact or_iret E F dX11_errorCode_9 (Nat.le_refl _) (Nat.le_refl _) hk
def M_errorPosition (m : Nat) (I : ow_I) : Int32 × ow_I :=
  lt (ow_u I m 18 (nI 0)) (fun (I1 : ow_I) => (I1 m 7, I1))
set_option maxRecDepth 100000 in
set_option maxHeartbeats 400000 in
theorem cM_errorPosition {S : Nat → Option ow_Sh} {I : ow_I} {V : Nat → Nat → Value} {z : Nat} {m : Nat} (h_m : md_S S m)  : ow_Cf yX11_errorPosition cX11_errorPosition 1 (some .int) 0 [.ref m] (S, I, V, z) (some (.int ((M_errorPosition m I).1))) (S, (M_errorPosition m I).2, V, z) := by
  refine ow_Cf.of rfl (Nat.le_of_ble_eq_true rfl) (fun X K E F hk => ?_)
  have E : ow_E X RX11 cX11_errorPosition 1 (ow_rm 0 0 0) := E
  refine or_lv [(0, .ref m)] rfl ?_
  dsimp only [M_errorPosition] at hk
  refine or_aload_n E rfl dX11_errorPosition_0 ?_
  refine or_iconst (v := nI 0) E rfl dX11_errorPosition_1 ?_
  refine ot_putI E fl_11_54 fw_11_18 dX11_errorPosition_2 h_m.1 rfl ?_
  obtain ⟨I1, hI1⟩ : ∃ y_ : ow_I, y_ = ow_u I m 18 (nI 0) := ⟨_, rfl⟩
  replace hk := lt_k (P := fun r : Int32 × ow_I => K (some (.int ((r).1))) (S, (r).2, V, z)) hI1 hk
  refine or_nmI hI1 ?_
  refine or_aload_n E rfl dX11_errorPosition_5 ?_
  refine ot_getI E fl_11_21 dX11_errorPosition_6 h_m.1 rfl ?_
  try dsimp only at hk
  exact or_iret E F dX11_errorPosition_9 (Nat.le_refl _) (Nat.le_refl _) hk
def M_minute (m : Nat) (I : ow_I) : Int32 × ow_I :=
  lt (ow_u I m 18 (nI 0)) (fun (I1 : ow_I) => (I1 (m + 1) 5, I1))
set_option maxRecDepth 100000 in
set_option maxHeartbeats 400000 in
theorem cM_minute {S : Nat → Option ow_Sh} {I : ow_I} {V : Nat → Nat → Value} {z : Nat} {m : Nat} (h_m : md_S S m)  : ow_Cf yX11_minute cX11_minute 1 (some .int) 0 [.ref m] (S, I, V, z) (some (.int ((M_minute m I).1))) (S, (M_minute m I).2, V, z) := by
  refine ow_Cf.of rfl (Nat.le_of_ble_eq_true rfl) (fun X K E F hk => ?_)
  have E : ow_E X RX11 cX11_minute 1 (ow_rm 0 0 0) := E
  refine or_lv [(0, .ref m)] rfl ?_
  dsimp only [M_minute] at hk
  refine or_aload_n E rfl dX11_minute_0 ?_
  refine or_iconst (v := nI 0) E rfl dX11_minute_1 ?_
  refine ot_putI E fl_11_54 fw_11_18 dX11_minute_2 h_m.1 rfl ?_
  obtain ⟨I1, hI1⟩ : ∃ y_ : ow_I, y_ = ow_u I m 18 (nI 0) := ⟨_, rfl⟩
  replace hk := lt_k (P := fun r : Int32 × ow_I => K (some (.int ((r).1))) (S, (r).2, V, z)) hI1 hk
  refine or_nmI hI1 ?_
  refine or_aload_n E rfl dX11_minute_5 ?_
  refine ot_getC E fl_11_7 dX11_minute_6 h_m.1 rfl ?_
  refine or_iconst (v := nI 5) E rfl dX11_minute_9 ?_
  refine ot_iald (j := 5) E dX11_minute_10 h_m.2.1 rfl rfl (by omega) (Nat.le_of_ble_eq_true rfl) ?_
  try dsimp only at hk
  exact or_iret E F dX11_minute_11 (Nat.le_refl _) (Nat.le_refl _) hk
def M_step (m : Nat) (I : ow_I) : Int32 × ow_I :=
  lt (ow_u I m 18 (nI 0)) (fun (I1 : ow_I) => (I1 (m + 1) 3, I1))
set_option maxRecDepth 100000 in
set_option maxHeartbeats 400000 in
theorem cM_step {S : Nat → Option ow_Sh} {I : ow_I} {V : Nat → Nat → Value} {z : Nat} {m : Nat} (h_m : md_S S m)  : ow_Cf yX11_step cX11_step 1 (some .int) 0 [.ref m] (S, I, V, z) (some (.int ((M_step m I).1))) (S, (M_step m I).2, V, z) := by
  refine ow_Cf.of rfl (Nat.le_of_ble_eq_true rfl) (fun X K E F hk => ?_)
  have E : ow_E X RX11 cX11_step 1 (ow_rm 0 0 0) := E
  refine or_lv [(0, .ref m)] rfl ?_
  dsimp only [M_step] at hk
  refine or_aload_n E rfl dX11_step_0 ?_
  refine or_iconst (v := nI 0) E rfl dX11_step_1 ?_
  refine ot_putI E fl_11_54 fw_11_18 dX11_step_2 h_m.1 rfl ?_
  obtain ⟨I1, hI1⟩ : ∃ y_ : ow_I, y_ = ow_u I m 18 (nI 0) := ⟨_, rfl⟩
  replace hk := lt_k (P := fun r : Int32 × ow_I => K (some (.int ((r).1))) (S, (r).2, V, z)) hI1 hk
  refine or_nmI hI1 ?_
  refine or_aload_n E rfl dX11_step_5 ?_
  refine ot_getC E fl_11_7 dX11_step_6 h_m.1 rfl ?_
  refine or_iconst (v := nI 3) E rfl dX11_step_9 ?_
  refine ot_iald (j := 3) E dX11_step_10 h_m.2.1 rfl rfl (by omega) (Nat.le_of_ble_eq_true rfl) ?_
  try dsimp only at hk
  exact or_iret E F dX11_step_11 (Nat.le_refl _) (Nat.le_refl _) hk
def M_sellerCoins (m : Nat) (I : ow_I) : Int32 × ow_I :=
  lt (ow_u I m 18 (nI 0)) (fun (I1 : ow_I) => (I1 (m + 1) 13, I1))
set_option maxRecDepth 100000 in
set_option maxHeartbeats 400000 in
theorem cM_sellerCoins {S : Nat → Option ow_Sh} {I : ow_I} {V : Nat → Nat → Value} {z : Nat} {m : Nat} (h_m : md_S S m)  : ow_Cf yX11_sellerCoins cX11_sellerCoins 1 (some .int) 0 [.ref m] (S, I, V, z) (some (.int ((M_sellerCoins m I).1))) (S, (M_sellerCoins m I).2, V, z) := by
  refine ow_Cf.of rfl (Nat.le_of_ble_eq_true rfl) (fun X K E F hk => ?_)
  have E : ow_E X RX11 cX11_sellerCoins 1 (ow_rm 0 0 0) := E
  refine or_lv [(0, .ref m)] rfl ?_
  dsimp only [M_sellerCoins] at hk
  refine or_aload_n E rfl dX11_sellerCoins_0 ?_
  refine or_iconst (v := nI 0) E rfl dX11_sellerCoins_1 ?_
  refine ot_putI E fl_11_54 fw_11_18 dX11_sellerCoins_2 h_m.1 rfl ?_
  obtain ⟨I1, hI1⟩ : ∃ y_ : ow_I, y_ = ow_u I m 18 (nI 0) := ⟨_, rfl⟩
  replace hk := lt_k (P := fun r : Int32 × ow_I => K (some (.int ((r).1))) (S, (r).2, V, z)) hI1 hk
  refine or_nmI hI1 ?_
  refine or_aload_n E rfl dX11_sellerCoins_5 ?_
  refine ot_getC E fl_11_7 dX11_sellerCoins_6 h_m.1 rfl ?_
  refine or_bipush (v := nI 13) E rfl dX11_sellerCoins_9 ?_
  refine ot_iald (j := 13) E dX11_sellerCoins_11 h_m.2.1 rfl rfl (by omega) (Nat.le_of_ble_eq_true rfl) ?_
  try dsimp only at hk
  exact or_iret E F dX11_sellerCoins_12 (Nat.le_refl _) (Nat.le_refl _) hk
def M_houseCoins (m : Nat) (I : ow_I) : Int32 × ow_I :=
  lt (ow_u I m 18 (nI 0)) (fun (I1 : ow_I) => (I1 (m + 1) 14, I1))
set_option maxRecDepth 100000 in
set_option maxHeartbeats 400000 in
theorem cM_houseCoins {S : Nat → Option ow_Sh} {I : ow_I} {V : Nat → Nat → Value} {z : Nat} {m : Nat} (h_m : md_S S m)  : ow_Cf yX11_houseCoins cX11_houseCoins 1 (some .int) 0 [.ref m] (S, I, V, z) (some (.int ((M_houseCoins m I).1))) (S, (M_houseCoins m I).2, V, z) := by
  refine ow_Cf.of rfl (Nat.le_of_ble_eq_true rfl) (fun X K E F hk => ?_)
  have E : ow_E X RX11 cX11_houseCoins 1 (ow_rm 0 0 0) := E
  refine or_lv [(0, .ref m)] rfl ?_
  dsimp only [M_houseCoins] at hk
  refine or_aload_n E rfl dX11_houseCoins_0 ?_
  refine or_iconst (v := nI 0) E rfl dX11_houseCoins_1 ?_
  refine ot_putI E fl_11_54 fw_11_18 dX11_houseCoins_2 h_m.1 rfl ?_
  obtain ⟨I1, hI1⟩ : ∃ y_ : ow_I, y_ = ow_u I m 18 (nI 0) := ⟨_, rfl⟩
  replace hk := lt_k (P := fun r : Int32 × ow_I => K (some (.int ((r).1))) (S, (r).2, V, z)) hI1 hk
  refine or_nmI hI1 ?_
  refine or_aload_n E rfl dX11_houseCoins_5 ?_
  refine ot_getC E fl_11_7 dX11_houseCoins_6 h_m.1 rfl ?_
  refine or_bipush (v := nI 14) E rfl dX11_houseCoins_9 ?_
  refine ot_iald (j := 14) E dX11_houseCoins_11 h_m.2.1 rfl rfl (by omega) (Nat.le_of_ble_eq_true rfl) ?_
  try dsimp only at hk
  exact or_iret E F dX11_houseCoins_12 (Nat.le_refl _) (Nat.le_refl _) hk
def M_openBarrel (m : Nat) (I : ow_I) : Int32 × ow_I :=
  lt (ow_u I m 18 (nI 0)) (fun (I1 : ow_I) => (I1 (m + 1) 8, I1))
set_option maxRecDepth 100000 in
set_option maxHeartbeats 400000 in
theorem cM_openBarrel {S : Nat → Option ow_Sh} {I : ow_I} {V : Nat → Nat → Value} {z : Nat} {m : Nat} (h_m : md_S S m)  : ow_Cf yX11_openBarrel cX11_openBarrel 1 (some .int) 0 [.ref m] (S, I, V, z) (some (.int ((M_openBarrel m I).1))) (S, (M_openBarrel m I).2, V, z) := by
  refine ow_Cf.of rfl (Nat.le_of_ble_eq_true rfl) (fun X K E F hk => ?_)
  have E : ow_E X RX11 cX11_openBarrel 1 (ow_rm 0 0 0) := E
  refine or_lv [(0, .ref m)] rfl ?_
  dsimp only [M_openBarrel] at hk
  refine or_aload_n E rfl dX11_openBarrel_0 ?_
  refine or_iconst (v := nI 0) E rfl dX11_openBarrel_1 ?_
  refine ot_putI E fl_11_54 fw_11_18 dX11_openBarrel_2 h_m.1 rfl ?_
  obtain ⟨I1, hI1⟩ : ∃ y_ : ow_I, y_ = ow_u I m 18 (nI 0) := ⟨_, rfl⟩
  replace hk := lt_k (P := fun r : Int32 × ow_I => K (some (.int ((r).1))) (S, (r).2, V, z)) hI1 hk
  refine or_nmI hI1 ?_
  refine or_aload_n E rfl dX11_openBarrel_5 ?_
  refine ot_getC E fl_11_7 dX11_openBarrel_6 h_m.1 rfl ?_
  refine or_bipush (v := nI 8) E rfl dX11_openBarrel_9 ?_
  refine ot_iald (j := 8) E dX11_openBarrel_11 h_m.2.1 rfl rfl (by omega) (Nat.le_of_ble_eq_true rfl) ?_
  try dsimp only at hk
  exact or_iret E F dX11_openBarrel_12 (Nat.le_refl _) (Nat.le_refl _) hk
def M_bid (m : Nat) (I : ow_I) : Int32 × ow_I :=
  lt (ow_u I m 18 (nI 0)) (fun (I1 : ow_I) => if 0 ≤ I1 (m + 1) 10 then (I1 (m + 1) 9, I1) else ((-1), I1))
set_option maxRecDepth 100000 in
set_option maxHeartbeats 400000 in
theorem cM_bid {S : Nat → Option ow_Sh} {I : ow_I} {V : Nat → Nat → Value} {z : Nat} {m : Nat} (h_m : md_S S m)  : ow_Cf yX11_bid cX11_bid 1 (some .int) 0 [.ref m] (S, I, V, z) (some (.int ((M_bid m I).1))) (S, (M_bid m I).2, V, z) := by
  refine ow_Cf.of rfl (Nat.le_of_ble_eq_true rfl) (fun X K E F hk => ?_)
  have E : ow_E X RX11 cX11_bid 1 (ow_rm 0 0 0) := E
  refine or_lv [(0, .ref m)] rfl ?_
  dsimp only [M_bid] at hk
  refine or_aload_n E rfl dX11_bid_0 ?_
  refine or_iconst (v := nI 0) E rfl dX11_bid_1 ?_
  refine ot_putI E fl_11_54 fw_11_18 dX11_bid_2 h_m.1 rfl ?_
  obtain ⟨I1, hI1⟩ : ∃ y_ : ow_I, y_ = ow_u I m 18 (nI 0) := ⟨_, rfl⟩
  replace hk := lt_k (P := fun r : Int32 × ow_I => K (some (.int ((r).1))) (S, (r).2, V, z)) hI1 hk
  refine or_nmI hI1 ?_
  refine or_aload_n E rfl dX11_bid_5 ?_
  refine ot_getC E fl_11_7 dX11_bid_6 h_m.1 rfl ?_
  refine or_bipush (v := nI 10) E rfl dX11_bid_9 ?_
  refine ot_iald (j := 10) E dX11_bid_11 h_m.2.1 rfl rfl (by omega) (Nat.le_of_ble_eq_true rfl) ?_
  refine or_if_ge 19 E dX11_bid_12 rfl (fun q12 => ?_) (fun q12 => ?_)
  · replace hk := ite_p (P := fun r : Int32 × ow_I => K (some (.int ((r).1))) (S, (r).2, V, z)) q12 hk
    refine or_aload_n E rfl dX11_bid_19 ?_
    refine ot_getC E fl_11_7 dX11_bid_20 h_m.1 rfl ?_
    refine or_bipush (v := nI 9) E rfl dX11_bid_23 ?_
    refine ot_iald (j := 9) E dX11_bid_25 h_m.2.1 rfl rfl (by omega) (Nat.le_of_ble_eq_true rfl) ?_
    try dsimp only at hk
    exact or_iret E F dX11_bid_26 (Nat.le_refl _) (Nat.le_refl _) hk
  · replace hk := ite_n (P := fun r : Int32 × ow_I => K (some (.int ((r).1))) (S, (r).2, V, z)) q12 hk
    refine or_iconst (v := -1) E rfl dX11_bid_15 ?_
    refine or_goto 26 E dX11_bid_16 rfl ?_
    try dsimp only at hk
    exact or_iret E F dX11_bid_26 (Nat.le_refl _) (Nat.le_refl _) hk
def M_leader (m : Nat) (I : ow_I) : Int32 × ow_I :=
  lt (ow_u I m 18 (nI 0)) (fun (I1 : ow_I) => (I1 (m + 1) 10, I1))
set_option maxRecDepth 100000 in
set_option maxHeartbeats 400000 in
theorem cM_leader {S : Nat → Option ow_Sh} {I : ow_I} {V : Nat → Nat → Value} {z : Nat} {m : Nat} (h_m : md_S S m)  : ow_Cf yX11_leader cX11_leader 1 (some .int) 0 [.ref m] (S, I, V, z) (some (.int ((M_leader m I).1))) (S, (M_leader m I).2, V, z) := by
  refine ow_Cf.of rfl (Nat.le_of_ble_eq_true rfl) (fun X K E F hk => ?_)
  have E : ow_E X RX11 cX11_leader 1 (ow_rm 0 0 0) := E
  refine or_lv [(0, .ref m)] rfl ?_
  dsimp only [M_leader] at hk
  refine or_aload_n E rfl dX11_leader_0 ?_
  refine or_iconst (v := nI 0) E rfl dX11_leader_1 ?_
  refine ot_putI E fl_11_54 fw_11_18 dX11_leader_2 h_m.1 rfl ?_
  obtain ⟨I1, hI1⟩ : ∃ y_ : ow_I, y_ = ow_u I m 18 (nI 0) := ⟨_, rfl⟩
  replace hk := lt_k (P := fun r : Int32 × ow_I => K (some (.int ((r).1))) (S, (r).2, V, z)) hI1 hk
  refine or_nmI hI1 ?_
  refine or_aload_n E rfl dX11_leader_5 ?_
  refine ot_getC E fl_11_7 dX11_leader_6 h_m.1 rfl ?_
  refine or_bipush (v := nI 10) E rfl dX11_leader_9 ?_
  refine ot_iald (j := 10) E dX11_leader_11 h_m.2.1 rfl rfl (by omega) (Nat.le_of_ble_eq_true rfl) ?_
  try dsimp only at hk
  exact or_iret E F dX11_leader_12 (Nat.le_refl _) (Nat.le_refl _) hk
def M_queueLength (m : Nat) (I : ow_I) : Int32 × ow_I :=
  lt (ow_u I m 18 (nI 0)) (fun (I1 : ow_I) => (I1 (m + 1) 12, I1))
set_option maxRecDepth 100000 in
set_option maxHeartbeats 400000 in
theorem cM_queueLength {S : Nat → Option ow_Sh} {I : ow_I} {V : Nat → Nat → Value} {z : Nat} {m : Nat} (h_m : md_S S m)  : ow_Cf yX11_queueLength cX11_queueLength 1 (some .int) 0 [.ref m] (S, I, V, z) (some (.int ((M_queueLength m I).1))) (S, (M_queueLength m I).2, V, z) := by
  refine ow_Cf.of rfl (Nat.le_of_ble_eq_true rfl) (fun X K E F hk => ?_)
  have E : ow_E X RX11 cX11_queueLength 1 (ow_rm 0 0 0) := E
  refine or_lv [(0, .ref m)] rfl ?_
  dsimp only [M_queueLength] at hk
  refine or_aload_n E rfl dX11_queueLength_0 ?_
  refine or_iconst (v := nI 0) E rfl dX11_queueLength_1 ?_
  refine ot_putI E fl_11_54 fw_11_18 dX11_queueLength_2 h_m.1 rfl ?_
  obtain ⟨I1, hI1⟩ : ∃ y_ : ow_I, y_ = ow_u I m 18 (nI 0) := ⟨_, rfl⟩
  replace hk := lt_k (P := fun r : Int32 × ow_I => K (some (.int ((r).1))) (S, (r).2, V, z)) hI1 hk
  refine or_nmI hI1 ?_
  refine or_aload_n E rfl dX11_queueLength_5 ?_
  refine ot_getC E fl_11_7 dX11_queueLength_6 h_m.1 rfl ?_
  refine or_bipush (v := nI 12) E rfl dX11_queueLength_9 ?_
  refine ot_iald (j := 12) E dX11_queueLength_11 h_m.2.1 rfl rfl (by omega) (Nat.le_of_ble_eq_true rfl) ?_
  try dsimp only at hk
  exact or_iret E F dX11_queueLength_12 (Nat.le_refl _) (Nat.le_refl _) hk
def M_barrelCount (m : Nat) (I : ow_I) : Int32 × ow_I :=
  lt (ow_u I m 18 (nI 0)) (fun (I1 : ow_I) => (I1 (m + 1) 7, I1))
set_option maxRecDepth 100000 in
set_option maxHeartbeats 400000 in
theorem cM_barrelCount {S : Nat → Option ow_Sh} {I : ow_I} {V : Nat → Nat → Value} {z : Nat} {m : Nat} (h_m : md_S S m)  : ow_Cf yX11_barrelCount cX11_barrelCount 1 (some .int) 0 [.ref m] (S, I, V, z) (some (.int ((M_barrelCount m I).1))) (S, (M_barrelCount m I).2, V, z) := by
  refine ow_Cf.of rfl (Nat.le_of_ble_eq_true rfl) (fun X K E F hk => ?_)
  have E : ow_E X RX11 cX11_barrelCount 1 (ow_rm 0 0 0) := E
  refine or_lv [(0, .ref m)] rfl ?_
  dsimp only [M_barrelCount] at hk
  refine or_aload_n E rfl dX11_barrelCount_0 ?_
  refine or_iconst (v := nI 0) E rfl dX11_barrelCount_1 ?_
  refine ot_putI E fl_11_54 fw_11_18 dX11_barrelCount_2 h_m.1 rfl ?_
  obtain ⟨I1, hI1⟩ : ∃ y_ : ow_I, y_ = ow_u I m 18 (nI 0) := ⟨_, rfl⟩
  replace hk := lt_k (P := fun r : Int32 × ow_I => K (some (.int ((r).1))) (S, (r).2, V, z)) hI1 hk
  refine or_nmI hI1 ?_
  refine or_aload_n E rfl dX11_barrelCount_5 ?_
  refine ot_getC E fl_11_7 dX11_barrelCount_6 h_m.1 rfl ?_
  refine or_bipush (v := nI 7) E rfl dX11_barrelCount_9 ?_
  refine ot_iald (j := 7) E dX11_barrelCount_11 h_m.2.1 rfl rfl (by omega) (Nat.le_of_ble_eq_true rfl) ?_
  try dsimp only at hk
  exact or_iret E F dX11_barrelCount_12 (Nat.le_refl _) (Nat.le_refl _) hk
def M_buyerCount (m : Nat) (I : ow_I) : Int32 × ow_I :=
  lt (ow_u I m 18 (nI 0)) (fun (I1 : ow_I) => (I1 (m + 1) 6, I1))
set_option maxRecDepth 100000 in
set_option maxHeartbeats 400000 in
theorem cM_buyerCount {S : Nat → Option ow_Sh} {I : ow_I} {V : Nat → Nat → Value} {z : Nat} {m : Nat} (h_m : md_S S m)  : ow_Cf yX11_buyerCount cX11_buyerCount 1 (some .int) 0 [.ref m] (S, I, V, z) (some (.int ((M_buyerCount m I).1))) (S, (M_buyerCount m I).2, V, z) := by
  refine ow_Cf.of rfl (Nat.le_of_ble_eq_true rfl) (fun X K E F hk => ?_)
  have E : ow_E X RX11 cX11_buyerCount 1 (ow_rm 0 0 0) := E
  refine or_lv [(0, .ref m)] rfl ?_
  dsimp only [M_buyerCount] at hk
  refine or_aload_n E rfl dX11_buyerCount_0 ?_
  refine or_iconst (v := nI 0) E rfl dX11_buyerCount_1 ?_
  refine ot_putI E fl_11_54 fw_11_18 dX11_buyerCount_2 h_m.1 rfl ?_
  obtain ⟨I1, hI1⟩ : ∃ y_ : ow_I, y_ = ow_u I m 18 (nI 0) := ⟨_, rfl⟩
  replace hk := lt_k (P := fun r : Int32 × ow_I => K (some (.int ((r).1))) (S, (r).2, V, z)) hI1 hk
  refine or_nmI hI1 ?_
  refine or_aload_n E rfl dX11_buyerCount_5 ?_
  refine ot_getC E fl_11_7 dX11_buyerCount_6 h_m.1 rfl ?_
  refine or_bipush (v := nI 6) E rfl dX11_buyerCount_9 ?_
  refine ot_iald (j := 6) E dX11_buyerCount_11 h_m.2.1 rfl rfl (by omega) (Nat.le_of_ble_eq_true rfl) ?_
  try dsimp only at hk
  exact or_iret E F dX11_buyerCount_12 (Nat.le_refl _) (Nat.le_refl _) hk
def M_isOpen (m : Nat) (I : ow_I) : Bool × ow_I :=
  lt (ow_u I m 18 (nI 0)) (fun (I1 : ow_I) => (M_isOpenNow m I1, I1))
set_option maxRecDepth 100000 in
set_option maxHeartbeats 400000 in
theorem cM_isOpen {S : Nat → Option ow_Sh} {I : ow_I} {V : Nat → Nat → Value} {z : Nat} {m : Nat} (h_m : md_S S m) (hv : md_V (I (m + 1))) : ow_Cf yX11_isOpen cX11_isOpen 1 (some .boolean) 2 [.ref m] (S, I, V, z) (some (.int (bi ((M_isOpen m I).1)))) (S, (M_isOpen m I).2, V, z) := by
  refine ow_Cf.of rfl (Nat.le_of_ble_eq_true rfl) (fun X K E F hk => ?_)
  have E : ow_E X RX11 cX11_isOpen 1 (ow_rm 2 0 0) := E
  refine or_lv [(0, .ref m)] rfl ?_
  dsimp only [M_isOpen] at hk
  refine or_aload_n E rfl dX11_isOpen_0 ?_
  refine or_iconst (v := nI 0) E rfl dX11_isOpen_1 ?_
  refine ot_putI E fl_11_54 fw_11_18 dX11_isOpen_2 h_m.1 rfl ?_
  obtain ⟨I1, hI1⟩ : ∃ y_ : ow_I, y_ = ow_u I m 18 (nI 0) := ⟨_, rfl⟩
  replace hk := lt_k (P := fun r : Bool × ow_I => K (some (.int (bi ((r).1)))) (S, (r).2, V, z)) hI1 hk
  refine or_nmI hI1 ?_
  refine or_aload_n E rfl dX11_isOpen_5 ?_
  refine or_cV0r (cM_isOpenNow  h_m (by subst hI1; simp (disch := decide) only [lb_A, lB_A, u_A, fr_lb, fr_lB, ow_u_k]; exact hv.1)) E lk_11_105 dX11_isOpen_6 h_m.1 rfl rfl (by decide) (by decide) ⟨Nat.le_refl _, Nat.le_refl _⟩ (Nat.le_of_ble_eq_true rfl) ?_
  try dsimp only at hk
  exact or_zret E F dX11_isOpen_9 (Nat.le_refl _) (Nat.le_refl _) (bi_nar _) hk
