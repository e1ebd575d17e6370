theorem fl_3_15 : ow_fl RX3 15 3 0 := ⟨_, rfl, by decide, ow_T_in 289 (by decide +kernel) (by decide +kernel), ow_ok3⟩
theorem fl_3_20 : ow_fl RX3 20 3 3 := ⟨_, rfl, by decide, ow_T_in 291 (by decide +kernel) (by decide +kernel), ow_ok3⟩
theorem wt_287 : Cond.fieldLink "LowWaterAuction$Command" 9 "LowWaterAuction$Verb" "BARREL" "LLowWaterAuction$Verb;" ∈ ow_T := ow_T_in 287 (by decide +kernel) (by decide +kernel)
/-! CONSTRUCTORS: of cells without others, or with one array -/
theorem lo_8_3 : ow_lo RX8 3 := ⟨ow_T_in 49 (by decide +kernel) (by decide +kernel), ow_T_in 36 (by decide +kernel) (by decide +kernel), ow_T_in 37 (by decide +kernel) (by decide +kernel)⟩
theorem lo_2_1 : ow_lo RX2 1 := ⟨ow_T_in 72 (by decide +kernel) (by decide +kernel), ow_T_in 36 (by decide +kernel) (by decide +kernel), ow_T_in 37 (by decide +kernel) (by decide +kernel)⟩
theorem lo_1_3 : ow_lo RX1 3 := ⟨ow_T_in 102 (by decide +kernel) (by decide +kernel), ow_T_in 36 (by decide +kernel) (by decide +kernel), ow_T_in 37 (by decide +kernel) (by decide +kernel)⟩
theorem lo_5_3 : ow_lo RX5 3 := ⟨ow_T_in 255 (by decide +kernel) (by decide +kernel), ow_T_in 36 (by decide +kernel) (by decide +kernel), ow_T_in 37 (by decide +kernel) (by decide +kernel)⟩
theorem lo_3_3 : ow_lo RX3 3 := ⟨ow_T_in 286 (by decide +kernel) (by decide +kernel), ow_T_in 36 (by decide +kernel) (by decide +kernel), ow_T_in 37 (by decide +kernel) (by decide +kernel)⟩
theorem ff_1_0 : ∃ r : vw_C, ow_cl[1]? = some r ∧ (r.2.1 0).2.2.2 = true ∧ (r.2.1 0).1 = RX1 ∧ parseFieldDescriptor (r.2.1 0).2.2.1 = some (.array .int) := ⟨_, rfl, rfl, by decide +kernel, by decide +kernel⟩
theorem ff_5_0 : ∃ r : vw_C, ow_cl[5]? = some r ∧ (r.2.1 0).2.2.2 = true ∧ (r.2.1 0).1 = RX5 ∧ parseFieldDescriptor (r.2.1 0).2.2.1 = some (.array .int) := ⟨_, rfl, rfl, by decide +kernel, by decide +kernel⟩
theorem ff_3_3 : ∃ r : vw_C, ow_cl[3]? = some r ∧ (r.2.1 3).2.2.2 = true ∧ (r.2.1 3).1 = RX3 ∧ parseFieldDescriptor (r.2.1 3).2.2.1 = some (.array .int) := ⟨_, rfl, rfl, by decide +kernel, by decide +kernel⟩
def raw0 : Nat → Option (Option Value) := fun k => match k with
  | 0 => some none
  | _ => none
def raw3 : Nat → Option (Option Value) := fun k => match k with
  | 0 => some none
  | 3 => some none
  | _ => none
set_option maxRecDepth 100000 in
set_option maxHeartbeats 400000 in
theorem cT_init {Z : Nat → Nat} {S : Nat → Option ow_Sh} {I : ow_I} {V : Nat → Nat → Value} {z a : Nat} (hS : S a = some (.inl (8, ow_n))) : ow_Cx Z yX8_init cX8_init 1 none 1 0 0 [.ref a] (S, I, V, z) (ox_s S V z 0 none (ow_u (ow_u I a 0 (nI 5)) a 1 (nI 1))) := by
  refine ow_Cx.off rfl (Nat.le_of_ble_eq_true rfl) (fun X K E G F hk => ?_)
  have E : ow_E X RX8 cX8_init 1 (ow_rm 1 0 0) := E
  refine or_ltz (fun hlt => ?_)
  have haz : a ≠ z := by
    have := hlt a _ hS
    omega
  refine or_lv [(0, .ref a)] rfl ?_
  refine or_aload_n E rfl dX8_init_0 ?_
  refine or_oinit E lo_8_3 dX8_init_1 (by decide) (Nat.le_of_ble_eq_true rfl) ?_
  refine or_aload_n E rfl dX8_init_4 ?_
  refine or_iconst (v := nI 5) E rfl dX8_init_5 ?_
  refine ot_putI E fl_8_9 fw_8_0 dX8_init_6 hS rfl ?_
  refine or_aload_n E rfl dX8_init_9 ?_
  refine or_iconst (v := nI 1) E rfl dX8_init_10 ?_
  refine ot_putI E fl_8_15 fw_8_1 dX8_init_11 hS rfl ?_
  exact or_xr E F (fun X' E' F' => or_vret E' F' dX8_init_14 (Nat.le_of_ble_eq_true rfl) (Nat.le_of_ble_eq_true rfl) (hk.1 rfl))
set_option maxRecDepth 100000 in
set_option maxHeartbeats 400000 in
theorem cY_init {Z : Nat → Nat} {S : Nat → Option ow_Sh} {I : ow_I} {V : Nat → Nat → Value} {z a : Nat} (hS : S a = some (.inl (2, ow_n))) : ow_Cx Z yX2_init cX2_init 1 none 1 0 0 [.ref a] (S, I, V, z) (ox_s S V z 0 none I) := by
  refine ow_Cx.off rfl (Nat.le_of_ble_eq_true rfl) (fun X K E G F hk => ?_)
  have E : ow_E X RX2 cX2_init 1 (ow_rm 1 0 0) := E
  refine or_ltz (fun hlt => ?_)
  have haz : a ≠ z := by
    have := hlt a _ hS
    omega
  refine or_lv [(0, .ref a)] rfl ?_
  refine or_aload_n E rfl dX2_init_0 ?_
  refine or_oinit E lo_2_1 dX2_init_1 (by decide) (Nat.le_of_ble_eq_true rfl) ?_
  exact or_xr E F (fun X' E' F' => or_vret E' F' dX2_init_4 (Nat.le_of_ble_eq_true rfl) (Nat.le_of_ble_eq_true rfl) (hk.1 rfl))
set_option maxRecDepth 100000 in
set_option maxHeartbeats 400000 in
theorem cB_init {Z : Nat → Nat} {S : Nat → Option ow_Sh} {I : ow_I} {V : Nat → Nat → Value} {z a : Nat} (hS : S a = some (.inl (1, raw0))) : ow_Cx Z yX1_init cX1_init 1 none 1 1 9 [.ref a] (S, I, V, z) (ox_s (ow_nS S z (.inr (.int, 9, ow_n))) (ow_u V a 0 (.ref z)) (z + 1) 0 none (ow_nI I z)) := by
  refine ow_Cx.off rfl (Nat.le_of_ble_eq_true rfl) (fun X K E G F hk => ?_)
  have E : ow_E X RX1 cX1_init 1 (ow_rm 1 1 9) := E
  refine or_ltz (fun hlt => ?_)
  have haz : a ≠ z := by
    have := hlt a _ hS
    omega
  refine or_lv [(0, .ref a)] rfl ?_
  refine or_aload_n E rfl dX1_init_0 ?_
  refine or_oinit E lo_1_3 dX1_init_1 (by decide) (Nat.le_of_ble_eq_true rfl) ?_
  refine or_aload_n E rfl dX1_init_4 ?_
  refine or_bipush (v := nI 9) E rfl dX1_init_5 ?_
  refine or_newa (atype := .int) (κ := ow_n) E (ow_T_in 97 (by decide +kernel) (by decide +kernel)) rfl (fun _ => rfl) dX1_init_7 (by decide) (by decide) (by decide) (by decide) ?_
  refine or_putF E F fl_1_9 (.array .int) ff_1_0 rfl rfl dX1_init_9 ((ow_nS_o S _ haz).trans hS) rfl ?_
  exact or_xr E F (fun X' E' F' => or_vret E' F' dX1_init_12 (Nat.le_of_ble_eq_true rfl) (Nat.le_of_ble_eq_true rfl) (hk.1 rfl))
set_option maxRecDepth 100000 in
set_option maxHeartbeats 400000 in
theorem cU_init {Z : Nat → Nat} {S : Nat → Option ow_Sh} {I : ow_I} {V : Nat → Nat → Value} {z a : Nat} (hS : S a = some (.inl (5, raw0))) : ow_Cx Z yX5_init cX5_init 1 none 1 1 500 [.ref a] (S, I, V, z) (ox_s (ow_nS S z (.inr (.int, 500, ow_n))) (ow_u V a 0 (.ref z)) (z + 1) 0 none (ow_nI I z)) := by
  refine ow_Cx.off rfl (Nat.le_of_ble_eq_true rfl) (fun X K E G F hk => ?_)
  have E : ow_E X RX5 cX5_init 1 (ow_rm 1 1 500) := E
  refine or_ltz (fun hlt => ?_)
  have haz : a ≠ z := by
    have := hlt a _ hS
    omega
  refine or_lv [(0, .ref a)] rfl ?_
  refine or_aload_n E rfl dX5_init_0 ?_
  refine or_oinit E lo_5_3 dX5_init_1 (by decide) (Nat.le_of_ble_eq_true rfl) ?_
  refine or_aload_n E rfl dX5_init_4 ?_
  refine or_sipush (v := nI 500) E rfl dX5_init_5 ?_
  refine or_newa (atype := .int) (κ := ow_n) E (ow_T_in 97 (by decide +kernel) (by decide +kernel)) rfl (fun _ => rfl) dX5_init_8 (by decide) (by decide) (by decide) (by decide) ?_
  refine or_putF E F fl_5_9 (.array .int) ff_5_0 rfl rfl dX5_init_10 ((ow_nS_o S _ haz).trans hS) rfl ?_
  exact or_xr E F (fun X' E' F' => or_vret E' F' dX5_init_13 (Nat.le_of_ble_eq_true rfl) (Nat.le_of_ble_eq_true rfl) (hk.1 rfl))
set_option maxRecDepth 100000 in
set_option maxHeartbeats 400000 in
theorem cC_init {Z : Nat → Nat} {S : Nat → Option ow_Sh} {I : ow_I} {V : Nat → Nat → Value} {z a : Nat} (hS : S a = some (.inl (3, raw3))) : ow_Cx Z yX3_init cX3_init 1 none 1 1 9 [.ref a] (S, I, V, z) (ox_s (ow_nS S z (.inr (.int, 9, ow_n))) (ow_u (ow_u V a 0 (.ref (Z 45))) a 3 (.ref z)) (z + 1) 0 none (ow_nI I z)) := by
  refine ow_Cx.off rfl (Nat.le_of_ble_eq_true rfl) (fun X K E G F hk => ?_)
  have E : ow_E X RX3 cX3_init 1 (ow_rm 1 1 9) := E
  refine or_ltz (fun hlt => ?_)
  have haz : a ≠ z := by
    have := hlt a _ hS
    omega
  refine or_lv [(0, .ref a)] rfl ?_
  refine or_aload_n E rfl dX3_init_0 ?_
  refine or_oinit E lo_3_3 dX3_init_1 (by decide) (Nat.le_of_ble_eq_true rfl) ?_
  refine or_aload_n E rfl dX3_init_4 ?_
  refine or_gs E (og_3 G 0 rfl) wt_287 dX3_init_5 ?_
  refine or_putV E fl_3_15 (.object "LowWaterAuction$Verb") fwv_3_0 rfl rfl dX3_init_8 hS rfl ?_
  refine or_aload_n E rfl dX3_init_11 ?_
  refine or_bipush (v := nI 9) E rfl dX3_init_12 ?_
  refine or_newa (atype := .int) (κ := ow_n) E (ow_T_in 97 (by decide +kernel) (by decide +kernel)) rfl (fun _ => rfl) dX3_init_14 (by decide) (by decide) (by decide) (by decide) ?_
  refine or_putF E F fl_3_20 (.array .int) ff_3_3 rfl rfl dX3_init_16 ((ow_nS_o S _ haz).trans hS) rfl ?_
  exact or_xr E F (fun X' E' F' => or_vret E' F' dX3_init_19 (Nat.le_of_ble_eq_true rfl) (Nat.le_of_ble_eq_true rfl) (hk.1 rfl))
