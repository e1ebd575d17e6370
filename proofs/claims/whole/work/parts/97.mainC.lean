theorem fl_10_185 : ow_fl RX10 185 6 7 := ⟨_, rfl, by decide, ow_T_in 176 (by decide +kernel) (by decide +kernel), ow_ok6⟩
theorem fl_10_194 : ow_fl RX10 194 6 9 := ⟨_, rfl, by decide, ow_T_in 180 (by decide +kernel) (by decide +kernel), ow_ok6⟩
theorem lk_10_127 : ow_lv RX10 127 yX10_requireBuyer cX10_requireBuyer 2 none 1 := ⟨ow_T_in 1259 (by decide +kernel) (by decide +kernel), ow_T_in 1261 (by decide +kernel) (by decide +kernel), ow_T_sel 30 (by decide +kernel) (by decide +kernel), ow_T_in 1 (by decide +kernel) (by decide +kernel), ow_T_in 1262 (by decide +kernel) (by decide +kernel), ⟨by decide +kernel, by decide +kernel, by decide +kernel⟩⟩
theorem lk_10_161 : ow_lv RX10 161 yX10_requireBarrel cX10_requireBarrel 2 none 1 := ⟨ow_T_in 1310 (by decide +kernel) (by decide +kernel), ow_T_in 1312 (by decide +kernel) (by decide +kernel), ow_T_sel 31 (by decide +kernel) (by decide +kernel), ow_T_in 1 (by decide +kernel) (by decide +kernel), ow_T_in 1313 (by decide +kernel) (by decide +kernel), ⟨by decide +kernel, by decide +kernel, by decide +kernel⟩⟩
def A_barrelAt (x : Nat) (b : Int32) (I : ow_I) : Nat :=
  if A_requireBarrel x b I = 0 then 0 else A_requireBarrel x b I
set_option maxRecDepth 100000 in
set_option maxHeartbeats 400000 in
theorem cA_barrelAt {Z : Nat → Nat} {S : Nat → Option ow_Sh} {I : ow_I} {V : Nat → Nat → Value} {z : Nat} {x : Nat} {b : Int32} (h_x : au_S S x) (hV : k_V (x + 1) I) : ow_Cx Z yX10_barrelAt cX10_barrelAt 2 (some (.object "LowWaterAuction$Barrel")) 10 1 6 [.ref x, .int b] (S, I, V, z) (ox_s S V z (A_barrelAt x b I) (some (.ref (x + 1 + 11 + 2 * (tn b)))) I) := by
  refine ow_Cx.off rfl (Nat.le_of_ble_eq_true rfl) (fun X K E G F hk => ?_)
  have E : ow_E X RX10 cX10_barrelAt 2 (ow_rm 10 1 6) := E
  refine or_lv [(0, .ref x), (1, .int b)] rfl ?_
  try dsimp only [A_barrelAt] at hk
  refine or_aload_n E rfl dX10_barrelAt_0 ?_
  refine or_iload_n E rfl dX10_barrelAt_1 ?_
  refine or_fV1v (cA_requireBarrel (Z := Z)  h_x ) E G F lk_10_161 dX10_barrelAt_2 h_x.1 rfl rfl (by decide) (by decide) ⟨(Nat.le_of_ble_eq_true rfl), (Nat.le_of_ble_eq_true rfl)⟩ (Nat.le_of_ble_eq_true rfl) (fun q2 => ?_) (fun q2 => (ite_n (P := fun r : Nat => ox_e K S V z r (some (.ref (x + 1 + 11 + 2 * (tn b)))) I) (Nat.pos_iff_ne_zero.mp q2) hk).2 q2)
  replace hk := ite_p (P := fun r : Nat => ox_e K S V z r (some (.ref (x + 1 + 11 + 2 * (tn b)))) I) q2 hk
  refine or_aload_n E rfl dX10_barrelAt_5 ?_
  refine ot_getC E fl_10_10 dX10_barrelAt_6 h_x.1 rfl ?_
  refine ot_getC E fl_10_194 dX10_barrelAt_9 h_x.2.1.1 rfl ?_
  refine or_iload_n E rfl dX10_barrelAt_12 ?_
  refine or_top (nI_tn (rb_0' q2).1).symm ?_
  refine ot_aald (j := tn b) E dX10_barrelAt_13 h_x.2.1.2.2.2.1 rfl rfl (by have h9 := (rb_0' q2).2; have h8 := hV.2.1.2; omega) (Nat.le_of_ble_eq_true rfl) ?_
  try dsimp only at hk
  exact or_xr E F (fun X' E' F' => or_aret E' F' (Or.inl ⟨_, rfl⟩) (Or.inr ⟨_, rfl⟩) dX10_barrelAt_14 (Nat.le_of_ble_eq_true rfl) (Nat.le_of_ble_eq_true rfl) (hk.1 rfl))
def A_buyerAt (x : Nat) (b : Int32) (I : ow_I) : Nat :=
  if A_requireBuyer x b I = 0 then 0 else A_requireBuyer x b I
set_option maxRecDepth 100000 in
set_option maxHeartbeats 400000 in
theorem cA_buyerAt {Z : Nat → Nat} {S : Nat → Option ow_Sh} {I : ow_I} {V : Nat → Nat → Value} {z : Nat} {x : Nat} {b : Int32} (h_x : au_S S x) (hV : k_V (x + 1) I) : ow_Cx Z yX10_buyerAt cX10_buyerAt 2 (some (.object "LowWaterAuction$Buyer")) 10 1 6 [.ref x, .int b] (S, I, V, z) (ox_s S V z (A_buyerAt x b I) (some (.ref (x + 1 + 5 + (tn b)))) I) := by
  refine ow_Cx.off rfl (Nat.le_of_ble_eq_true rfl) (fun X K E G F hk => ?_)
  have E : ow_E X RX10 cX10_buyerAt 2 (ow_rm 10 1 6) := E
  refine or_lv [(0, .ref x), (1, .int b)] rfl ?_
  try dsimp only [A_buyerAt] at hk
  refine or_aload_n E rfl dX10_buyerAt_0 ?_
  refine or_iload_n E rfl dX10_buyerAt_1 ?_
  refine or_fV1v (cA_requireBuyer (Z := Z)  h_x ) E G F lk_10_127 dX10_buyerAt_2 h_x.1 rfl rfl (by decide) (by decide) ⟨(Nat.le_of_ble_eq_true rfl), (Nat.le_of_ble_eq_true rfl)⟩ (Nat.le_of_ble_eq_true rfl) (fun q2 => ?_) (fun q2 => (ite_n (P := fun r : Nat => ox_e K S V z r (some (.ref (x + 1 + 5 + (tn b)))) I) (Nat.pos_iff_ne_zero.mp q2) hk).2 q2)
  replace hk := ite_p (P := fun r : Nat => ox_e K S V z r (some (.ref (x + 1 + 5 + (tn b)))) I) q2 hk
  refine or_aload_n E rfl dX10_buyerAt_5 ?_
  refine ot_getC E fl_10_10 dX10_buyerAt_6 h_x.1 rfl ?_
  refine ot_getC E fl_10_185 dX10_buyerAt_9 h_x.2.1.1 rfl ?_
  refine or_iload_n E rfl dX10_buyerAt_12 ?_
  refine or_top (nI_tn (ry_0' q2).1).symm ?_
  refine ot_aald (j := tn b) E dX10_buyerAt_13 h_x.2.1.2.2.1 rfl rfl (by have h9 := (ry_0' q2).2; have h8 := hV.1.2; omega) (Nat.le_of_ble_eq_true rfl) ?_
  try dsimp only at hk
  exact or_xr E F (fun X' E' F' => or_aret E' F' (Or.inl ⟨_, rfl⟩) (Or.inr ⟨_, rfl⟩) dX10_buyerAt_14 (Nat.le_of_ble_eq_true rfl) (Nat.le_of_ble_eq_true rfl) (hk.1 rfl))
