/-! CONSTRUCTORS: StringBuilder; one cell's shape written anew -/
theorem ow_re_o {S : Nat → Option ow_Sh} {I : ow_I} {V : Nat → Nat → Value} {a ci : Nat} {κ κ1 : Nat → Option (Option Value)} (hS : S a = some (.inl (ci, κ))) (hv : ∀ k, ow_v (κ k) (I a k) (V a k) = ow_v (κ1 k) (I a k) (V a k)) : ow_re S (ow_nS S a (.inl (ci, κ1))) I V := by
  intro b sh1 hs
  by_cases e : b = a
  · rw [e] at hs ⊢
    have e2 : some (Sum.inl (ci, κ1)) = some sh1 := (ow_nS_s S a (.inl (ci, κ1))).symm.trans hs
    cases e2
    exact ⟨.inl (ci, κ), hS, rfl, hv⟩
  · refine ⟨sh1, (ow_nS_o S _ e).symm.trans hs, ?_⟩
    cases sh1 with
    | inl o => exact ⟨rfl, fun _ => rfl⟩
    | inr x => exact ⟨rfl, rfl, fun _ => rfl⟩
theorem ow_re_a {S : Nat → Option ow_Sh} {I : ow_I} {V : Nat → Nat → Value} {a n : Nat} {ty : FieldType} {κ κ1 : Nat → Option (Option Value)} (hS : S a = some (.inr (ty, n, κ))) (hv : ∀ k, ow_v (κ k) (I a k) (V a k) = ow_v (κ1 k) (I a k) (V a k)) : ow_re S (ow_nS S a (.inr (ty, n, κ1))) I V := by
  intro b sh1 hs
  by_cases e : b = a
  · rw [e] at hs ⊢
    have e2 : some (Sum.inr (ty, n, κ1)) = some sh1 := (ow_nS_s S a (.inr (ty, n, κ1))).symm.trans hs
    cases e2
    exact ⟨.inr (ty, n, κ), hS, rfl, rfl, hv⟩
  · refine ⟨sh1, (ow_nS_o S _ e).symm.trans hs, ?_⟩
    cases sh1 with
    | inl o => exact ⟨rfl, fun _ => rfl⟩
    | inr x => exact ⟨rfl, rfl, fun _ => rfl⟩
def sb_r : Nat → Option (Option Value) := fun k => match k with
  | 0 => some none
  | 1 => some none
  | 2 => some none
  | _ => none
theorem lo_105_3 : ow_lo RX105 3 := ⟨ow_T_in 335 (by decide +kernel) (by decide +kernel), ow_T_in 36 (by decide +kernel) (by decide +kernel), ow_T_in 37 (by decide +kernel) (by decide +kernel)⟩
theorem fwb_1 : ∃ r : vw_C, ow_cl[12]? = some r ∧ (r.2.1 1).2.2.2 = false ∧ parseFieldDescriptor (r.2.1 1).2.2.1 = some .byte := ⟨_, rfl, rfl, by decide +kernel⟩
theorem lz_104_1 : ow_lz RX104 1 yJ5_init_d00df cJ5_init_d00df 2 1 := ⟨ow_T_in 332 (by decide +kernel) (by decide +kernel), ow_T_in 333 (by decide +kernel) (by decide +kernel), ow_T_in 12 (by decide +kernel) (by decide +kernel), ow_T_in 334 (by decide +kernel) (by decide +kernel), rfl, ⟨by decide, by decide, by decide +kernel⟩⟩
set_option maxRecDepth 100000 in
set_option maxHeartbeats 400000 in
theorem cj5_init {Z : Nat → Nat} {S : Nat → Option ow_Sh} {I : ow_I} {V : Nat → Nat → Value} {z a : Nat} (hS : S a = some (.inl (12, sb_r))) (hI : I a 1 = 0) : ow_Cx Z yJ5_init_d00df cJ5_init_d00df 2 none 1 1 16 [.ref a, .int (nI 16)] (S, I, V, z) (ox_s (ow_nS (ow_nS S z (.inr (.byte, 16, ow_n))) a (.inl (12, sb_k))) (ow_u (ow_u V a 0 (.ref z)) a 1 (.int 0)) (z + 1) 0 none (ow_nI I z)) := by
  refine ow_Cx.off rfl (Nat.le_of_ble_eq_true rfl) (fun X K E G F hk => ?_)
  have E : ow_E X RX105 cJ5_init_d00df 2 (ow_rm 1 1 16) := E
  refine or_ltz (fun hlt => ?_)
  have haz : a ≠ z := by
    have := hlt a _ hS
    omega
  have hS1 : ow_nS S z (.inr (.byte, 16, ow_n)) a = some (.inl (12, sb_r)) := (ow_nS_o S _ haz).trans hS
  refine or_lv [(0, .ref a), (1, .int (nI 16))] rfl ?_
  refine or_aload_n E rfl dJ5_init_d00df_0 ?_
  refine or_oinit E lo_105_3 dJ5_init_d00df_1 (by decide) (Nat.le_of_ble_eq_true rfl) ?_
  refine or_gs E (og_cz G) wt_336 dJ5_init_d00df_4 ?_
  refine or_if_eqN (a := 1) 25 E dJ5_init_d00df_7 rfl (by decide) (fun q => absurd q (by decide)) (fun _ => ?_)
  refine or_aload_n E rfl dJ5_init_d00df_10 ?_
  refine or_iload_n E rfl dJ5_init_d00df_11 ?_
  refine or_newa (atype := .byte) (κ := ow_n) E (ow_T_in 358 (by decide +kernel) (by decide +kernel)) rfl (fun _ => rfl) dJ5_init_d00df_12 (by decide) (by decide) (by decide) (by decide) ?_
  refine or_putV E fl_105_15 (.array .byte) fwb_0 rfl rfl dJ5_init_d00df_14 hS1 rfl ?_
  refine or_aload_n E rfl dJ5_init_d00df_17 ?_
  refine or_iconst (v := nI 0) E rfl dJ5_init_d00df_18 ?_
  refine or_putV (x := .int 0) E fl_105_22 .byte fwb_1 (by decide) (by decide) dJ5_init_d00df_19 hS1 rfl ?_
  refine or_goto 38 E dJ5_init_d00df_22 rfl ?_
  refine or_re (S1 := ow_nS (ow_nS S z (.inr (.byte, 16, ow_n))) a (.inl (12, sb_k))) (ow_re_o hS1 (fun k => ?_)) ?_
  · match k with
    | 0 => rfl
    | 1 =>
      show ow_u (ow_u V a 0 (.ref z)) a 1 (.int 0) a 1 = .int (ow_nI I z a 1)
      rw [ow_u_s, ow_nI_o I haz, hI]
    | 2 => rfl
    | k + 3 => rfl
  exact or_xr E F (fun X' E' F' => or_vret E' F' dJ5_init_d00df_38 (Nat.le_of_ble_eq_true rfl) (Nat.le_of_ble_eq_true rfl) (hk.1 rfl))
set_option maxRecDepth 100000 in
set_option maxHeartbeats 400000 in
theorem cj4_init {Z : Nat → Nat} {S : Nat → Option ow_Sh} {I : ow_I} {V : Nat → Nat → Value} {z a : Nat} (hS : S a = some (.inl (12, sb_r))) (hI : I a 1 = 0) : ow_Cx Z yJ4_init_da8c8 cJ4_init_da8c8 1 none 2 1 16 [.ref a] (S, I, V, z) (ox_s (ow_nS (ow_nS S z (.inr (.byte, 16, ow_n))) a (.inl (12, sb_k))) (ow_u (ow_u V a 0 (.ref z)) a 1 (.int 0)) (z + 1) 0 none (ow_nI I z)) := by
  refine ow_Cx.off rfl (Nat.le_of_ble_eq_true rfl) (fun X K E G F hk => ?_)
  have E : ow_E X RX104 cJ4_init_da8c8 1 (ow_rm 2 1 16) := E
  refine or_ltz (fun hlt => ?_)
  have haz : a ≠ z := by
    have := hlt a _ hS
    omega
  have hS1 : ow_nS S z (.inr (.byte, 16, ow_n)) a = some (.inl (12, sb_r)) := (ow_nS_o S _ haz).trans hS
  refine or_lv [(0, .ref a)] rfl ?_
  refine or_aload_n E rfl dJ4_init_da8c8_0 ?_
  refine or_bipush (v := nI 16) E rfl dJ4_init_da8c8_1 ?_
  refine or_xI [.int (nI 16)] (cj5_init (Z := Z) hS hI) E G F lz_104_1 dJ4_init_da8c8_3 rfl (by decide) (by decide) ⟨by decide, by decide⟩ (Nat.le_of_ble_eq_true rfl) (fun r h1 q => ?_) (fun c' h1 hc' q => absurd q.1 (Nat.pos_iff_ne_zero.mp hc'))
  obtain ⟨rfl, rfl⟩ := q.2.1 rfl
  exact or_xr E F (fun X' E' F' => or_vret E' F' dJ4_init_da8c8_6 (Nat.le_of_ble_eq_true rfl) (Nat.le_of_ble_eq_true rfl) (hk.1 rfl))
